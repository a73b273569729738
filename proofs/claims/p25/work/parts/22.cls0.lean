/-! HoopStairs$History, and what a HoopStairs is -/
/-- the ring at hb: its object, the row of six states; state i at hb + 2 + 18 i -/
def isRing (Y : Nat → ClassId) (ad : Nat → Nat) (C : Nat → va_E) (hb nx ln : Nat) : Prop :=
  C hb = .inr (0, [.ref (ad (hb + 1)), .int (nI nx), .int (nI ln)]) ∧ ∃ q : Nat → Option Nat, C (hb + 1) = .inl (Y 2, 6, .inr (.inr (.inr (.inr q)))) ∧ ∀ i, i < 6 → q i = some (ad (hb + 2 + 18 * i))
theorem ring_nx {nx : Nat} (h : nx < 6) : (nI nx + 1) - (nI nx + 1) / 6 * 6 = nI ((nx + 1) % 6) := by
  rw [← nI_succ]
  exact pk_rem (a := nx + 1) (d := 6) (by omega) (by decide) (by decide)
theorem ring_bk {nx : Nat} (h : nx < 6) : (nI nx + 6 - 1) - (nI nx + 6 - 1) / 6 * 6 = nI ((nx + 5) % 6) := by
  have e : nI nx + 6 - 1 = nI (nx + 5) := by
    rw [show nI nx + 6 = nI (nx + 5 + 1) from nI_add nx 6]
    exact nI_pred (nx + 5)
  rw [e]
  exact pk_rem (a := nx + 5) (d := 6) (by omega) (by decide) (by decide)
theorem ring_ln {ln : Nat} (h : ln ≤ 6) : (if nI ln + 1 < 6 then nI ln + 1 else 6) = nI (if ln = 6 then 6 else ln + 1) := by
  rw [← nI_succ]
  show (if nI (ln + 1) < nI 6 then nI (ln + 1) else 6) = _
  by_cases q : ln + 1 < 6
  · rw [if_pos (nI_lt (b := 6) q (by decide)), if_neg (by omega)]
  · rw [if_neg (fun z => q ((nI_ltI (b := 6) (by omega) (by decide)).mp z))]
    by_cases r : ln = 6
    · rw [if_pos r]; rfl
    · rw [if_neg r, show ln = 5 by omega]; rfl
set_option maxRecDepth 20000 in
set_option maxHeartbeats 4000000 in
/-- an index of the ring -/
theorem c_X0_has (l : Launch) (D : va_G) (Y : Nat → ClassId) (ad : Nat → Nat) (N : Nat) (hI : wI ad N) (C : Nat → va_E) (k : Nat) (hk : k < 6) : Met l yX0_has (wm yX0_has cX0_has 1 (some .boolean)) { frames := 0, cells := 0, slots := 0, locals := 0 } (wPc D Y ad N [.int (nI k)] C) (wQi D ad N (fun r C' => C' = C ∧ r = 1)) 0 0 (wA ad N) := by
  refine wMet RX0 rfl (by decide +kernel) (Nat.le_of_ble_eq_true rfl) (lv := [(0, .int (nI k))]) rfl ?_
  intro p e s m below meth c ls F hr hlocks hP hl
  have hS : va_S (wA ad N) s.heap s.heap [] := va_S.rf
  refine lv_iload_n F.1 F.2.1 dX0_has_0 rfl (lv_at hl 0 rfl) ?_
  refine lv_if_lt (tgt := 14) F.1 F.2.1 dX0_has_1 (by decide) (fun c1 => False.elim (nI_pos (by omega) c1)) (fun c1 => ?_)
  refine lv_iload_n F.1 F.2.1 dX0_has_4 rfl (lv_at hl 0 rfl) ?_
  refine lv_bipush (v := 6) F.1 F.2.1 dX0_has_5 (by decide) ?_
  refine lv_icmp_ge (tgt := 14) F.1 F.2.1 dX0_has_7 (by decide) (fun c2 => False.elim (nI_ge (b := 6) hk (by decide) c2)) (fun c2 => ?_)
  refine lv_iconst (v := 1) F.1 F.2.1 dX0_has_10 (by decide) ?_
  refine lv_goto (tgt := 15) F.1 F.2.1 dX0_has_11 (by decide) ?_
  exact w_zret F hr hlocks hP hS (Or.inr rfl) dX0_has_15 ⟨rfl, rfl⟩
set_option maxRecDepth 20000 in
set_option maxHeartbeats 4000000 in
/-- the state before a change -/
theorem c_X0_record (l : Launch) (D : va_G) (Y : Nat → ClassId) (ad : Nat → Nat) (N : Nat) (hI : wI ad N) (C : Nat → va_E) (hb b : Nat) (hh : hb + 110 ≤ N) (hhb : b + 17 < N) (hd : b + 18 ≤ hb ∨ hb + 110 ≤ b) (nx ln : Nat) (hnx : nx < 6) (hln : ln ≤ 6) (hr0 : isRing Y ad C hb nx ln) (f f2 : Nat → Int32) (g g2 : Int32) (hs : isState Y ad C b f g) (hst : isState Y ad C (hb + 2 + 18 * nx) f2 g2) (hz : f 5 = 0 ∨ f 5 = 1) : Met l yX0_record (wm yX0_record cX0_record 2 none) { frames := 3, cells := 0, slots := 0, locals := 67 } (wPc D Y ad N [.ref (ad hb), .ref (ad b)] C) (wQv D ad N (fun C' => isState Y ad C' (hb + 2 + 18 * nx) f g ∧ isRing Y ad C' hb ((nx + 1) % 6) (if ln = 6 then 6 else ln + 1) ∧ ∀ j, j ≠ hb → j < hb + 2 + 18 * nx ∨ hb + 2 + 18 * nx + 18 ≤ j → C' j = C j)) 0 0 (wA ad N) := by
  obtain ⟨q0, hq0, hq0i⟩ := hr0.2
  refine wMet RX0 rfl (by decide +kernel) (Nat.le_of_ble_eq_true rfl) (lv := [(0, .ref (ad hb)), (1, .ref (ad b))]) rfl ?_
  intro p e s m below meth c ls F hr hlocks hP hl
  have hS : va_S (wA ad N) s.heap s.heap [] := va_S.rf
  refine lv_aload_n F.1 F.2.1 dX0_record_0 rfl (lv_at hl 0 rfl) ?_
  refine gf_X0_16 F hP (by omega) hr0.1 (v := .int (nI nx)) rfl dX0_record_1 ?_
  refine w_calls F hP hS (c_X0_has l D Y ad N hI _ nx hnx) (cwSm 1 F.2.2.2.2.1 (fun _ h => h) mw_707 mw_705 mw_706 mw_19 rfl rfl ydX0_has ⟨by decide, by decide⟩) rfl hl.1 rfl (Nat.le_of_ble_eq_true rfl) dX0_record_4 ⟨Nat.zero_le _, Nat.zero_le _⟩ (fun r C2 H locs hq hP hS => ?_)
  obtain ⟨hq1, hq2⟩ := hq; rw [hq1] at hP; subst hq2
  refine lv_if_ne (tgt := 11) F.1 F.2.1 dX0_record_7 (by decide) (fun c1 => ?_) (fun c1 => False.elim (by revert c1; decide))
  refine lv_aload_n F.1 F.2.1 dX0_record_11 rfl (lv_at hl 0 rfl) ?_
  refine gf_X0_11 F hP (by omega) hr0.1 (v := .ref (ad (hb + 1))) rfl dX0_record_12 ?_
  refine lv_aload_n F.1 F.2.1 dX0_record_15 rfl (lv_at hl 0 rfl) ?_
  refine gf_X0_16 F hP (by omega) hr0.1 (v := .int (nI nx)) rfl dX0_record_16 ?_
  refine w_qald F hP (by omega) hq0 (k := nx) rfl hnx (Nat.le_of_ble_eq_true rfl) (v := ad (hb + 2 + 18 * nx)) (hq0i nx hnx) dX0_record_19 ?_
  refine lv_aload_n F.1 F.2.1 dX0_record_20 rfl (lv_at hl 1 rfl) ?_
  refine w_callv F hP hS (c_X6_copyFrom l D Y ad N hI _ (hb + 2 + 18 * nx) b (by omega) (by omega) (by omega) f2 f  g2 g  hst hs hz) (cwVm 1 F.2.2.2.2.1 (fun _ h => h) mw_132 mw_708 mw_130 mw_131 mw_15 rfl rfl ydX6_copyFrom ⟨by decide, by decide⟩) (by omega) hst.1 rfl rfl hl.1 rfl (Nat.le_of_ble_eq_true rfl) dX0_record_21 ⟨Nat.zero_le _, Nat.zero_le _⟩ (fun K1 H locs hq1 hP hS => ?_)
  obtain ⟨hst1, hfr1⟩ := hq1
  have k1 : K1 hb = .inr (0, [.ref (ad (hb + 1)), .int (nI nx), .int (nI ln)]) := (hfr1 _ (by omega)).trans hr0.1
  refine lv_aload_n F.1 F.2.1 dX0_record_24 rfl (lv_at hl 0 rfl) ?_
  refine lv_aload_n F.1 F.2.1 dX0_record_25 rfl (lv_at hl 0 rfl) ?_
  refine gf_X0_16 F hP (by omega) k1 (v := .int (nI nx)) rfl dX0_record_26 ?_
  refine lv_iconst (v := 1) F.1 F.2.1 dX0_record_29 (by decide) ?_
  refine lv_iadd F.1 F.2.1 dX0_record_30 ?_
  refine lv_bipush (v := 6) F.1 F.2.1 dX0_record_31 (by decide) ?_
  refine lv_irem F.1 F.2.1 dX0_record_33 (by decide) ?_
  refine lv_topi (fun v2 ev2 => ?_)
  have ev2 : v2 = nI ((nx + 1) % 6) := ev2.trans (ring_nx hnx)
  subst ev2
  obtain ⟨K2, eK2⟩ : ∃ z, z = va_up K1 hb (.inr (0, [.ref (ad (hb + 1)), .int (nI ((nx + 1) % 6)), .int (nI ln)])) := ⟨_, rfl⟩
  refine pf_X0_16 F hI hP hS (by omega) k1 (Nat.le_of_ble_eq_true rfl) (C1 := K2) (fun j => (congrFun eK2 j).symm) dX0_record_34 (fun H locs hP hS => ?_)
  have k2 : K2 hb = .inr (0, [.ref (ad (hb + 1)), .int (nI ((nx + 1) % 6)), .int (nI ln)]) := by rw [eK2]; exact va_up_self _ _ _
  have sf2 : ∀ j, j ≠ hb → K2 j = K1 j := fun j hj => by rw [eK2, va_up_ne _ _ hj]
  refine lv_aload_n F.1 F.2.1 dX0_record_37 rfl (lv_at hl 0 rfl) ?_
  refine lv_bipush (v := 6) F.1 F.2.1 dX0_record_38 (by decide) ?_
  refine lv_aload_n F.1 F.2.1 dX0_record_40 rfl (lv_at hl 0 rfl) ?_
  refine gf_X0_20 F hP (by omega) k2 (v := .int (nI ln)) rfl dX0_record_41 ?_
  refine lv_iconst (v := 1) F.1 F.2.1 dX0_record_44 (by decide) ?_
  refine lv_iadd F.1 F.2.1 dX0_record_45 ?_
  refine w_min F hl.1 mw_704 (by decide) (Nat.le_of_ble_eq_true rfl) ⟨Nat.zero_le _, Nat.zero_le _⟩ dX0_record_46 ?_
  refine lv_topi (fun v3 ev3 => ?_)
  have ev3 : v3 = nI (if ln = 6 then 6 else ln + 1) := ev3.trans (ring_ln hln)
  subst ev3
  obtain ⟨K3, eK3⟩ : ∃ z, z = va_up K2 hb (.inr (0, [.ref (ad (hb + 1)), .int (nI ((nx + 1) % 6)), .int (nI (if ln = 6 then 6 else ln + 1))])) := ⟨_, rfl⟩
  refine pf_X0_20 F hI hP hS (by omega) k2 (Nat.le_of_ble_eq_true rfl) (C1 := K3) (fun j => (congrFun eK3 j).symm) dX0_record_49 (fun H locs hP hS => ?_)
  have k3 : K3 hb = .inr (0, [.ref (ad (hb + 1)), .int (nI ((nx + 1) % 6)), .int (nI (if ln = 6 then 6 else ln + 1))]) := by rw [eK3]; exact va_up_self _ _ _
  have sf3 : ∀ j, j ≠ hb → K3 j = K2 j := fun j hj => by rw [eK3, va_up_ne _ _ hj]
  exact w_vret F hr hlocks hP hS dX0_record_52 ⟨isState_same hst1 (fun j a z => (sf3 j (by omega)).trans (sf2 j (by omega))), ⟨k3, q0, (sf3 _ (by omega)).trans ((sf2 _ (by omega)).trans ((hfr1 _ (by omega)).trans hq0)), hq0i⟩, fun j a z => (sf3 j a).trans ((sf2 j a).trans (hfr1 j z))⟩
set_option maxRecDepth 20000 in
set_option maxHeartbeats 4000000 in
/-- one change back -/
theorem c_X0_stepBack (l : Launch) (D : va_G) (Y : Nat → ClassId) (ad : Nat → Nat) (N : Nat) (hI : wI ad N) (C : Nat → va_E) (hb b : Nat) (hh : hb + 110 ≤ N) (hhb : b + 17 < N) (hd : b + 18 ≤ hb ∨ hb + 110 ≤ b) (nx ln : Nat) (hnx : nx < 6) (hln : ln ≤ 6) (hr0 : isRing Y ad C hb nx ln) (f f2 : Nat → Int32) (g g2 : Int32) (hs : isState Y ad C b f g) (hst : isState Y ad C (hb + 2 + 18 * ((nx + 5) % 6)) f2 g2) (hz : f2 5 = 0 ∨ f2 5 = 1) (hl1 : 1 ≤ ln) : Met l yX0_stepBack (wm yX0_stepBack cX0_stepBack 3 (some .int)) { frames := 3, cells := 0, slots := 0, locals := 67 } (wPc D Y ad N [.ref (ad hb), .ref (ad b)] C) (wQi D ad N (fun r C' => r = nI (ln - 1) ∧ isState Y ad C' b f2 g2 ∧ isRing Y ad C' hb ((nx + 5) % 6) (ln - 1) ∧ ∀ j, j ≠ hb → j < b ∨ b + 18 ≤ j → C' j = C j)) 0 0 (wA ad N) := by
  obtain ⟨q0, hq0, hq0i⟩ := hr0.2
  refine wMet RX0 rfl (by decide +kernel) (Nat.le_of_ble_eq_true rfl) (lv := [(0, .ref (ad hb)), (1, .ref (ad b))]) rfl ?_
  intro p e s m below meth c ls F hr hlocks hP hl
  have hS : va_S (wA ad N) s.heap s.heap [] := va_S.rf
  refine lv_aload_n F.1 F.2.1 dX0_stepBack_0 rfl (lv_at hl 0 rfl) ?_
  refine gf_X0_16 F hP (by omega) hr0.1 (v := .int (nI nx)) rfl dX0_stepBack_1 ?_
  refine lv_bipush (v := 6) F.1 F.2.1 dX0_stepBack_4 (by decide) ?_
  refine lv_iadd F.1 F.2.1 dX0_stepBack_6 ?_
  refine lv_iconst (v := 1) F.1 F.2.1 dX0_stepBack_7 (by decide) ?_
  refine lv_isub F.1 F.2.1 dX0_stepBack_8 ?_
  refine lv_bipush (v := 6) F.1 F.2.1 dX0_stepBack_9 (by decide) ?_
  refine lv_irem F.1 F.2.1 dX0_stepBack_11 (by decide) ?_
  refine lv_topi (fun v1 ev1 => ?_)
  have ev1 : v1 = nI ((nx + 5) % 6) := ev1.trans (ring_bk hnx)
  subst ev1
  refine lv_istore_n (lv' := [(2, .int (nI ((nx + 5) % 6))), (0, .ref (ad hb)), (1, .ref (ad b))]) F.1 F.2.1 dX0_stepBack_12 rfl hl (by decide) rfl (fun ls hl => ?_)
  refine lv_aload_n F.1 F.2.1 dX0_stepBack_13 rfl (lv_at hl 1 rfl) ?_
  refine gf_X0_20 F hP (by omega) hr0.1 (v := .int (nI ln)) rfl dX0_stepBack_14 ?_
  refine lv_if_le (tgt := 52) F.1 F.2.1 dX0_stepBack_17 (by decide) (fun c2 => False.elim (nI_nle (by omega) (by omega) c2)) (fun c2 => ?_)
  refine lv_iload_n F.1 F.2.1 dX0_stepBack_20 rfl (lv_at hl 0 rfl) ?_
  refine w_calls F hP hS (c_X0_has l D Y ad N hI _ ((nx + 5) % 6) (Nat.mod_lt _ (by decide))) (cwSm 1 F.2.2.2.2.1 (fun _ h => h) mw_707 mw_705 mw_706 mw_19 rfl rfl ydX0_has ⟨by decide, by decide⟩) rfl hl.1 rfl (Nat.le_of_ble_eq_true rfl) dX0_stepBack_21 ⟨Nat.zero_le _, Nat.zero_le _⟩ (fun r C2 H locs hq hP hS => ?_)
  obtain ⟨hq1, hq2⟩ := hq; rw [hq1] at hP; subst hq2
  refine lv_if_eq (tgt := 52) F.1 F.2.1 dX0_stepBack_24 (by decide) (fun c3 => False.elim (by revert c3; decide)) (fun c3 => ?_)
  refine lv_aload_n F.1 F.2.1 dX0_stepBack_27 rfl (lv_at hl 2 rfl) ?_
  refine lv_aload_n F.1 F.2.1 dX0_stepBack_28 rfl (lv_at hl 1 rfl) ?_
  refine gf_X0_11 F hP (by omega) hr0.1 (v := .ref (ad (hb + 1))) rfl dX0_stepBack_29 ?_
  refine lv_iload_n F.1 F.2.1 dX0_stepBack_32 rfl (lv_at hl 0 rfl) ?_
  refine w_qald F hP (by omega) hq0 (k := (nx + 5) % 6) rfl (Nat.mod_lt _ (by decide)) (Nat.le_of_ble_eq_true rfl) (v := ad (hb + 2 + 18 * ((nx + 5) % 6))) (hq0i _ (Nat.mod_lt _ (by decide))) dX0_stepBack_33 ?_
  refine w_callv F hP hS (c_X6_copyFrom l D Y ad N hI _ b (hb + 2 + 18 * ((nx + 5) % 6)) (by omega) (by omega) (by omega) f f2  g g2  hs hst hz) (cwVm 1 F.2.2.2.2.1 (fun _ h => h) mw_132 mw_708 mw_130 mw_131 mw_15 rfl rfl ydX6_copyFrom ⟨by decide, by decide⟩) (by omega) hs.1 rfl rfl hl.1 rfl (Nat.le_of_ble_eq_true rfl) dX0_stepBack_34 ⟨Nat.zero_le _, Nat.zero_le _⟩ (fun K1 H locs hq1 hP hS => ?_)
  obtain ⟨hst1, hfr1⟩ := hq1
  have k1 : K1 hb = .inr (0, [.ref (ad (hb + 1)), .int (nI nx), .int (nI ln)]) := (hfr1 _ (by omega)).trans hr0.1
  refine lv_aload_n F.1 F.2.1 dX0_stepBack_37 rfl (lv_at hl 1 rfl) ?_
  refine lv_iload_n F.1 F.2.1 dX0_stepBack_38 rfl (lv_at hl 0 rfl) ?_
  obtain ⟨K2, eK2⟩ : ∃ z, z = va_up K1 hb (.inr (0, [.ref (ad (hb + 1)), .int (nI ((nx + 5) % 6)), .int (nI ln)])) := ⟨_, rfl⟩
  refine pf_X0_16 F hI hP hS (by omega) k1 (Nat.le_of_ble_eq_true rfl) (C1 := K2) (fun j => (congrFun eK2 j).symm) dX0_stepBack_39 (fun H locs hP hS => ?_)
  have k2 : K2 hb = .inr (0, [.ref (ad (hb + 1)), .int (nI ((nx + 5) % 6)), .int (nI ln)]) := by rw [eK2]; exact va_up_self _ _ _
  have sf2 : ∀ j, j ≠ hb → K2 j = K1 j := fun j hj => by rw [eK2, va_up_ne _ _ hj]
  refine lv_aload_n F.1 F.2.1 dX0_stepBack_42 rfl (lv_at hl 1 rfl) ?_
  refine lv_dup F.1 F.2.1 dX0_stepBack_43 rfl ?_
  refine gf_X0_20 F hP (by omega) k2 (v := .int (nI ln)) rfl dX0_stepBack_44 ?_
  refine lv_iconst (v := 1) F.1 F.2.1 dX0_stepBack_47 (by decide) ?_
  refine lv_isub F.1 F.2.1 dX0_stepBack_48 ?_
  refine lv_topi (fun v4 ev4 => ?_)
  have ev4 : v4 = nI (ln - 1) := ev4.trans (pk_sub (b := 1) hl1)
  subst ev4
  obtain ⟨K3, eK3⟩ : ∃ z, z = va_up K2 hb (.inr (0, [.ref (ad (hb + 1)), .int (nI ((nx + 5) % 6)), .int (nI (ln - 1))])) := ⟨_, rfl⟩
  refine pf_X0_20 F hI hP hS (by omega) k2 (Nat.le_of_ble_eq_true rfl) (C1 := K3) (fun j => (congrFun eK3 j).symm) dX0_stepBack_49 (fun H locs hP hS => ?_)
  have k3 : K3 hb = .inr (0, [.ref (ad (hb + 1)), .int (nI ((nx + 5) % 6)), .int (nI (ln - 1))]) := by rw [eK3]; exact va_up_self _ _ _
  have sf3 : ∀ j, j ≠ hb → K3 j = K2 j := fun j hj => by rw [eK3, va_up_ne _ _ hj]
  refine lv_aload_n F.1 F.2.1 dX0_stepBack_52 rfl (lv_at hl 1 rfl) ?_
  refine gf_X0_20 F hP (by omega) k3 (v := .int (nI (ln - 1))) rfl dX0_stepBack_53 ?_
  exact w_iret F hr hlocks hP hS dX0_stepBack_56 ⟨rfl, isState_same hst1 (fun j a z => (sf3 j (by omega)).trans (sf2 j (by omega))), ⟨k3, q0, (sf3 _ (by omega)).trans ((sf2 _ (by omega)).trans ((hfr1 _ (by omega)).trans hq0)), hq0i⟩, fun j a z => (sf3 j a).trans ((sf2 j a).trans (hfr1 j z))⟩
def bs (k : Nat) : Nat := if k = 0 then 1 else if k < 7 then 3 + 18 * k else if k = 7 then 130 else 148
theorem bs_in {k : Nat} (h : k < 9) : 1 ≤ bs k ∧ bs k + 18 ≤ 166 ∧ (bs k + 18 ≤ 19 ∨ 21 ≤ bs k) ∧ (bs k + 18 ≤ 129 ∨ 130 ≤ bs k) := by
  unfold bs
  by_cases a : k = 0
  · rw [if_pos a]; omega
  · rw [if_neg a]
    by_cases c : k < 7
    · rw [if_pos c]; omega
    · rw [if_neg c]
      by_cases d : k = 7
      · rw [if_pos d]; omega
      · rw [if_neg d]; omega
theorem bs_val {k : Nat} (h : k < 9) : (k = 0 ∧ bs k = 1) ∨ (1 ≤ k ∧ k < 7 ∧ bs k = 3 + 18 * k) ∨ (k = 7 ∧ bs k = 130) ∨ (k = 8 ∧ bs k = 148) := by
  unfold bs
  by_cases a : k = 0
  · rw [if_pos a]; omega
  · rw [if_neg a]
    by_cases c : k < 7
    · rw [if_pos c]; omega
    · rw [if_neg c]
      by_cases d : k = 7
      · rw [if_pos d]; omega
      · rw [if_neg d]; omega
theorem bs_apart {k k' : Nat} (h : k < 9) (h' : k' < 9) (hn : k ≠ k') : bs k + 18 ≤ bs k' ∨ bs k' + 18 ≤ bs k := by
  have := bs_val h
  have := bs_val h'
  omega
theorem bs_ring {i : Nat} (h : i < 6) : bs (i + 1) = 21 + 18 * i := by
  unfold bs
  rw [if_neg (by omega), if_pos (by omega)]
  omega
/-- a HoopStairs at o: 170 cells; F k: the rows of its nine states (0: now; 1 .. 6: the ring; 7, 8: the slots) -/
def isCls (Y : Nat → ClassId) (ad : Nat → Nat) (C : Nat → va_E) (o : Nat) (F : Nat → Nat → Int32) (G : Nat → Int32) (nx ln : Nat) (fl : Nat → Int32) (pd : Nat → Int32) (n : Nat) : Prop :=
  C o = .inr (7, [.ref (ad (o + 1)), .ref (ad (o + 19)), .ref (ad (o + 129)), .ref (ad (o + 166)), .ref (ad (o + 167)), .ref (ad (o + 169))]) ∧
  isRing Y ad C (o + 19) nx ln ∧
  (∃ q : Nat → Option Nat, C (o + 129) = .inl (Y 2, 2, .inr (.inr (.inr (.inr q)))) ∧ ∀ i, i < 2 → q i = some (ad (o + bs (7 + i)))) ∧
  C (o + 166) = .inl (Y 1, 2, .inl fl) ∧
  (∃ x1 x2 x3 : Int32, C (o + 167) = pdV ad (o + 167) (nI n) x1 x2 x3) ∧ C (o + 168) = .inl (Y 0, 80, .inl pd) ∧
  (∃ (ft : Nat → Int32) (gt : Int32), C (o + 169) = hpR ft gt) ∧
  ∀ k, k < 9 → isState Y ad C (o + bs k) (F k) (G k)
section CLS
variable {Y : Nat → ClassId} {ad : Nat → Nat} {C C' : Nat → va_E} {o : Nat} {F : Nat → Nat → Int32} {G : Nat → Int32} {nx ln : Nat} {fl pd : Nat → Int32} {n : Nat}
theorem cls_same (h : isCls Y ad C o F G nx ln fl pd n) (hq : ∀ j, o ≤ j → j < o + 170 → C' j = C j) : isCls Y ad C' o F G nx ln fl pd n := by
  obtain ⟨h1, ⟨h2, q, h3, h4⟩, ⟨q2, h5, h6⟩, h7, ⟨x1, x2, x3, h8⟩, h9, ⟨ft, gt, h10⟩, h11⟩ := h
  exact ⟨(hq _ (by omega) (by omega)).trans h1, ⟨(hq _ (by omega) (by omega)).trans h2, q, (hq _ (by omega) (by omega)).trans h3, h4⟩, ⟨q2, (hq _ (by omega) (by omega)).trans h5, h6⟩, (hq _ (by omega) (by omega)).trans h7, ⟨x1, x2, x3, (hq _ (by omega) (by omega)).trans h8⟩, (hq _ (by omega) (by omega)).trans h9, ⟨ft, gt, (hq _ (by omega) (by omega)).trans h10⟩, fun k hk => isState_same (h11 k hk) (fun j a c => by have := bs_in hk; exact hq j (by omega) (by omega))⟩
/-- one state is another -/
theorem cls_st (k : Nat) (hk : k < 9) {f : Nat → Int32} {g : Int32} (h : isCls Y ad C o F G nx ln fl pd n) (hs : isState Y ad C' (o + bs k) f g) (hq : ∀ j, j < o + bs k ∨ o + bs k + 18 ≤ j → C' j = C j) : isCls Y ad C' o (va_up F k f) (va_up G k g) nx ln fl pd n := by
  obtain ⟨h1, ⟨h2, q, h3, h4⟩, ⟨q2, h5, h6⟩, h7, ⟨x1, x2, x3, h8⟩, h9, ⟨ft, gt, h10⟩, h11⟩ := h
  have hb := bs_in hk
  refine ⟨(hq _ (by omega)).trans h1, ⟨(hq _ (by omega)).trans h2, q, (hq _ (by omega)).trans h3, h4⟩, ⟨q2, (hq _ (by omega)).trans h5, h6⟩, (hq _ (by omega)).trans h7, ⟨x1, x2, x3, (hq _ (by omega)).trans h8⟩, (hq _ (by omega)).trans h9, ⟨ft, gt, (hq _ (by omega)).trans h10⟩, fun i hi => ?_⟩
  by_cases e : i = k
  · subst e
    rw [va_up_self, va_up_self]; exact hs
  · rw [va_up_ne _ _ e, va_up_ne _ _ e]
    have hb2 := bs_in hi
    have ha := bs_apart hi hk e
    exact isState_same (h11 i hi) (fun j a c => hq j (by omega))
/-- a state recorded -/
theorem cls_rec (hnx : nx < 6) (h : isCls Y ad C o F G nx ln fl pd n) {nx' ln' : Nat} {f : Nat → Int32} {g : Int32} (hs : isState Y ad C' (o + 19 + 2 + 18 * nx) f g) (hr : isRing Y ad C' (o + 19) nx' ln') (hq : ∀ j, j ≠ o + 19 → j < o + 19 + 2 + 18 * nx ∨ o + 19 + 2 + 18 * nx + 18 ≤ j → C' j = C j) : isCls Y ad C' o (va_up F (nx + 1) f) (va_up G (nx + 1) g) nx' ln' fl pd n := by
  obtain ⟨h1, ⟨h2, q, h3, h4⟩, ⟨q2, h5, h6⟩, h7, ⟨x1, x2, x3, h8⟩, h9, ⟨ft, gt, h10⟩, h11⟩ := h
  have hk : nx + 1 < 9 := by omega
  have hb := bs_in hk
  have hbe := bs_ring hnx
  refine ⟨(hq _ (by omega) (by omega)).trans h1, hr, ⟨q2, (hq _ (by omega) (by omega)).trans h5, h6⟩, (hq _ (by omega) (by omega)).trans h7, ⟨x1, x2, x3, (hq _ (by omega) (by omega)).trans h8⟩, (hq _ (by omega) (by omega)).trans h9, ⟨ft, gt, (hq _ (by omega) (by omega)).trans h10⟩, fun i hi => ?_⟩
  by_cases e : i = nx + 1
  · subst e
    rw [va_up_self, va_up_self, hbe, show o + (21 + 18 * nx) = o + 19 + 2 + 18 * nx by omega]; exact hs
  · rw [va_up_ne _ _ e, va_up_ne _ _ e]
    have hb2 := bs_in hi
    have ha := bs_apart hi hk e
    exact isState_same (h11 i hi) (fun j a c => hq j (by omega) (by omega))
/-- a step back: now is another, the ring turned -/
theorem cls_back (h : isCls Y ad C o F G nx ln fl pd n) {nx' ln' : Nat} {f : Nat → Int32} {g : Int32} (hs : isState Y ad C' (o + 1) f g) (hr : isRing Y ad C' (o + 19) nx' ln') (hq : ∀ j, j ≠ o + 19 → j < o + 1 ∨ o + 1 + 18 ≤ j → C' j = C j) : isCls Y ad C' o (va_up F 0 f) (va_up G 0 g) nx' ln' fl pd n := by
  obtain ⟨h1, ⟨h2, q, h3, h4⟩, ⟨q2, h5, h6⟩, h7, ⟨x1, x2, x3, h8⟩, h9, ⟨ft, gt, h10⟩, h11⟩ := h
  refine ⟨(hq _ (by omega) (by omega)).trans h1, hr, ⟨q2, (hq _ (by omega) (by omega)).trans h5, h6⟩, (hq _ (by omega) (by omega)).trans h7, ⟨x1, x2, x3, (hq _ (by omega) (by omega)).trans h8⟩, (hq _ (by omega) (by omega)).trans h9, ⟨ft, gt, (hq _ (by omega) (by omega)).trans h10⟩, fun i hi => ?_⟩
  by_cases e : i = 0
  · subst e
    rw [va_up_self, va_up_self]; exact hs
  · rw [va_up_ne _ _ e, va_up_ne _ _ e]
    have hb2 := bs_in hi
    have ha := bs_apart hi (show 0 < 9 by decide) e
    have hb0 : bs 0 = 1 := rfl
    exact isState_same (h11 i hi) (fun j a c => hq j (by omega) (by omega))
/-- the pad is another -/
theorem cls_pad (h : isCls Y ad C o F G nx ln fl pd n) {pd' : Nat → Int32} {n' : Nat} {x1 x2 x3 : Int32} (hs : C' (o + 167) = pdV ad (o + 167) (nI n') x1 x2 x3) (hc : C' (o + 168) = .inl (Y 0, 80, .inl pd')) (hq : ∀ j, j ≠ o + 167 → j ≠ o + 168 → C' j = C j) : isCls Y ad C' o F G nx ln fl pd' n' := by
  obtain ⟨h1, ⟨h2, q, h3, h4⟩, ⟨q2, h5, h6⟩, h7, -, h9, ⟨ft, gt, h10⟩, h11⟩ := h
  exact ⟨(hq _ (by omega) (by omega)).trans h1, ⟨(hq _ (by omega) (by omega)).trans h2, q, (hq _ (by omega) (by omega)).trans h3, h4⟩, ⟨q2, (hq _ (by omega) (by omega)).trans h5, h6⟩, (hq _ (by omega) (by omega)).trans h7, ⟨x1, x2, x3, hs⟩, hc, ⟨ft, gt, (hq _ (by omega) (by omega)).trans h10⟩, fun k hk => isState_same (h11 k hk) (fun j a c => by have := bs_in hk; exact hq j (by omega) (by omega))⟩
/-- the trial hoop is another -/
theorem cls_trial (h : isCls Y ad C o F G nx ln fl pd n) {ft : Nat → Int32} {gt : Int32} (hs : C' (o + 169) = hpR ft gt) (hq : ∀ j, j ≠ o + 169 → C' j = C j) : isCls Y ad C' o F G nx ln fl pd n := by
  obtain ⟨h1, ⟨h2, q, h3, h4⟩, ⟨q2, h5, h6⟩, h7, ⟨x1, x2, x3, h8⟩, h9, -, h11⟩ := h
  exact ⟨(hq _ (by omega)).trans h1, ⟨(hq _ (by omega)).trans h2, q, (hq _ (by omega)).trans h3, h4⟩, ⟨q2, (hq _ (by omega)).trans h5, h6⟩, (hq _ (by omega)).trans h7, ⟨x1, x2, x3, (hq _ (by omega)).trans h8⟩, (hq _ (by omega)).trans h9, ⟨ft, gt, hs⟩, fun k hk => isState_same (h11 k hk) (fun j a c => by have := bs_in hk; exact hq j (by omega))⟩
/-- a flag is another -/
theorem cls_flag (h : isCls Y ad C o F G nx ln fl pd n) {fl' : Nat → Int32} (hs : C' (o + 166) = .inl (Y 1, 2, .inl fl')) (hq : ∀ j, j ≠ o + 166 → C' j = C j) : isCls Y ad C' o F G nx ln fl' pd n := by
  obtain ⟨h1, ⟨h2, q, h3, h4⟩, ⟨q2, h5, h6⟩, h7, ⟨x1, x2, x3, h8⟩, h9, ⟨ft, gt, h10⟩, h11⟩ := h
  exact ⟨(hq _ (by omega)).trans h1, ⟨(hq _ (by omega)).trans h2, q, (hq _ (by omega)).trans h3, h4⟩, ⟨q2, (hq _ (by omega)).trans h5, h6⟩, hs, ⟨x1, x2, x3, (hq _ (by omega)).trans h8⟩, (hq _ (by omega)).trans h9, ⟨ft, gt, (hq _ (by omega)).trans h10⟩, fun k hk => isState_same (h11 k hk) (fun j a c => by have := bs_in hk; exact hq j (by omega))⟩
end CLS

