/-! HoopStairs$State: a run ends, a roll, numbers, a copy -/
theorem ends_a {f : Nat → Int32} {k we : Nat} (h10 : f 10 = nI k) (h11 : f 11 = nI we) (hk : k < 20) (he : 1 ≤ we) (he3 : we ≤ 3) : T_ends f = T_lists (upd (upd f (14 + we) (f (14 + we) + 1)) (62 + 5 * k + we) (f (62 + 5 * k + we) + 1)) := by
  have n4 : ¬ f 11 = 4 := by rw [h11]; exact fun q => by have := (nI_eq (a := we) (b := 4) (by omega) (by decide)).mp q; omega
  have c10 : (f 10).toNatClampNeg = k := by rw [h10]; exact nI_clamp (by omega)
  have c11 : (f 11).toNatClampNeg = we := by rw [h11]; exact nI_clamp (by omega)
  unfold T_ends
  rw [if_neg n4, c10, c11]
theorem ends_p {f : Nat → Int32} (h11 : f 11 = 4) : T_ends f = T_lists (upd f 18 (f 18 + 1)) := by
  unfold T_ends
  rw [if_pos h11]
theorem ea_lo {f : Nat → Int32} {k we q : Nat} {a c : Int32} (he : 1 ≤ we) (he3 : we ≤ 3) (h : q < 15) : T_lists (upd (upd f (14 + we) a) (62 + 5 * k + we) c) q = f q := by
  rw [lists_out (Or.inl (by omega)), upd_n (by omega), upd_n (by omega)]
theorem ea_19 {f : Nat → Int32} {k we : Nat} {a c : Int32} (he3 : we ≤ 3) : T_lists (upd (upd f (14 + we) a) (62 + 5 * k + we) c) 19 = f 19 := by
  rw [lists_out (Or.inl (by omega)), upd_n (by omega), upd_n (by omega)]
theorem ea_hi {f : Nat → Int32} {k we q : Nat} {a c : Int32} (he3 : we ≤ 3) (h : 61 ≤ q) : T_lists (upd (upd f (14 + we) a) (62 + 5 * k + we) c) q = upd f (62 + 5 * k + we) c q := by
  rw [lists_out (Or.inr h)]
  by_cases e : q = 62 + 5 * k + we
  · rw [e, upd_s, upd_s]
  · rw [upd_n e, upd_n e, upd_n (by omega)]
theorem ea_log {f : Nat → Int32} {k we q : Nat} {a c : Int32} (he : 1 ≤ we) (he3 : we ≤ 3) (h : 20 ≤ q) (h2 : q < 61) : T_lists (upd (upd f (14 + we) a) (62 + 5 * k + we) c) q = T_lists f q :=
  lists_cong (fun j hj => by rw [upd_n (by omega), upd_n (by omega)]) h h2
theorem ea_en {f : Nat → Int32} {k we q : Nat} {a c : Int32} (h : q < 19) : T_lists (upd (upd f (14 + we) a) (62 + 5 * k + we) c) q = upd f (14 + we) a q := by
  rw [lists_out (Or.inl (by omega)), upd_n (by omega)]
theorem ep_lo {f : Nat → Int32} {q : Nat} {a : Int32} (h : q ≠ 18) (h2 : q < 20 ∨ 61 ≤ q) : T_lists (upd f 18 a) q = f q := by
  rw [lists_out h2, upd_n h]
theorem ep_log {f : Nat → Int32} {q : Nat} {a : Int32} (h : 20 ≤ q) (h2 : q < 61) : T_lists (upd f 18 a) q = T_lists f q :=
  lists_cong (fun j hj => upd_n (by omega)) h h2
theorem isEnd_up {Y : Nat → ClassId} {C : Nat → va_E} {en i : Nat} {f q : Nat → Int32} {v : Int32} (hq : ∀ i, 1 ≤ i → i < 5 → q i = f (14 + i)) : isEnd Y (va_up C en (.inl (Y 0, 5, .inl (upd q i v)))) en (upd f (14 + i) v) :=
  ⟨_, va_up_self _ _ _, fun j h1 h2 => by
    by_cases a : j = i
    · rw [a, upd_s, upd_s]
    · rw [upd_n a, upd_n (by omega)]; exact hq j h1 h2⟩
set_option maxRecDepth 20000 in
set_option maxHeartbeats 4000000 in
/-- a run ended at a part -/
theorem c_X6_noteEnd_a (l : Launch) (D : va_G) (Y : Nat → ClassId) (ad : Nat → Nat) (N : Nat) (hI : wI ad N) (C : Nat → va_E) (b : Nat) (hh : b + 17 < N) (f : Nat → Int32) (g : Int32) (hs : isState Y ad C b f g) (k we : Nat) (hk : k < 20) (hkn : nI k < f 4) (he : 1 ≤ we) (he3 : we ≤ 3) (h10 : f 10 = nI k) (h11 : f 11 = nI we) (h20 : 0 ≤ (f 20).toInt) (h20b : (f 20).toInt ≤ 10) : Met l yX6_noteEnd (wm yX6_noteEnd cX6_noteEnd 1 none) { frames := 2, cells := 0, slots := 0, locals := 46 } (wPc D Y ad N [.ref (ad b)] C) (wQv D ad N (fun C' => isState Y ad C' b (T_ends f) g ∧ ∀ j, j < b ∨ b + 18 ≤ j → C' j = C j)) 0 0 (wA ad N) := by
  refine wMet RX6 rfl (by decide +kernel) (Nat.le_of_ble_eq_true rfl) (lv := [(0, .ref (ad b))]) rfl ?_
  intro p e s m below meth c ls F hr hlocks hP hl
  have hS : va_S (wA ad N) s.heap s.heap [] := va_S.rf
  refine lv_aload_n F.1 F.2.1 dX6_noteEnd_0 rfl (lv_at hl 0 rfl) ?_
  refine gf_X6_21 F hP (by omega) hs.1 (v := .ref (ad (b + 3))) rfl dX6_noteEnd_1 ?_
  refine lv_aload_n F.1 F.2.1 dX6_noteEnd_4 rfl (lv_at hl 0 rfl) ?_
  refine gf_X6_28 F hP (by omega) hs.1 (v := .ref (ad (b + 10))) rfl dX6_noteEnd_5 ?_
  refine gf_X6_104 F hP (by omega) hs.2.2.2.1 (v := .int (f 10)) rfl dX6_noteEnd_8 ?_
  refine lv_topi (fun v1 ev1 => ?_)
  have ev1 : v1 = nI k := ev1.trans h10
  subst ev1
  refine lv_aload_n F.1 F.2.1 dX6_noteEnd_11 rfl (lv_at hl 0 rfl) ?_
  refine gf_X6_28 F hP (by omega) hs.1 (v := .ref (ad (b + 10))) rfl dX6_noteEnd_12 ?_
  refine gf_X6_101 F hP (by omega) hs.2.2.2.1 (v := .int (f 11)) rfl dX6_noteEnd_15 ?_
  refine lv_topi (fun v2 ev2 => ?_)
  have ev2 : v2 = nI we := ev2.trans h11
  subst ev2
  refine w_callv F hP hS (c_X5_noteEnd l D Y ad N hI _ (b + 3) (by omega) f hs.2.2.1 k we hk hkn he he3) (cwVm 2 F.2.2.2.2.1 (fun _ h => h) mw_344 mw_341 mw_342 mw_343 mw_42 rfl rfl ydX5_noteEnd ⟨by decide, by decide⟩) (by omega) hs.2.2.1.1 rfl rfl hl.1 rfl (Nat.le_of_ble_eq_true rfl) dX6_noteEnd_18 ⟨Nat.zero_le _, Nat.zero_le _⟩ (fun K1 H locs hq1 hP hS => ?_)
  have ob1 : K1 b = stO ad b (f 14) (f 19) := (hq1.2 _ (by omega)).trans hs.1
  have se1 : isSett Y ad K1 (b + 1) f := isSett_same hs.2.1 (fun j a z => hq1.2 j (by omega))
  have st1 : isStair Y ad K1 (b + 3) (upd f (62 + 5 * k + we) (f (62 + 5 * k + we) + 1)) := hq1.1
  have hp1 : K1 (b + 10) = hpR f g := (hq1.2 _ (by omega)).trans hs.2.2.2.1
  have lg1 : isLog Y ad K1 (b + 11) f := isLog_same hs.2.2.2.2.1 (fun j a z => hq1.2 j (by omega))
  have en1 : isEnd Y K1 (b + 17) f := isEnd_same hs.2.2.2.2.2 (hq1.2 _ (by omega))
  have fr1 : ∀ j, j < b ∨ b + 18 ≤ j → K1 j = C j := fun j hj => (hq1.2 j (by omega)).trans ((fun _ _ => rfl) j hj)
  refine lv_aload_n F.1 F.2.1 dX6_noteEnd_21 rfl (lv_at hl 0 rfl) ?_
  refine gf_X6_35 F hP (by omega) ob1 (v := .ref (ad (b + 11))) rfl dX6_noteEnd_22 ?_
  refine lv_aload_n F.1 F.2.1 dX6_noteEnd_25 rfl (lv_at hl 0 rfl) ?_
  refine gf_X6_28 F hP (by omega) ob1 (v := .ref (ad (b + 10))) rfl dX6_noteEnd_26 ?_
  refine w_callv F hP hS (c_X3_add l D Y ad N hI _ (b + 11) (by omega) f lg1 (b + 10) (by omega) (by omega) g hp1 h20 h20b) (cwVm 1 F.2.2.2.2.1 (fun _ h => h) mw_348 mw_345 mw_346 mw_347 mw_48 rfl rfl ydX3_add ⟨by decide, by decide⟩) (by omega) lg1.1 rfl rfl hl.1 rfl (Nat.le_of_ble_eq_true rfl) dX6_noteEnd_29 ⟨Nat.zero_le _, Nat.zero_le _⟩ (fun K2 H locs hq2 hP hS => ?_)
  have ob2 : K2 b = stO ad b (f 14) (f 19) := (hq2.2 _ (by omega)).trans ob1
  have se2 : isSett Y ad K2 (b + 1) f := isSett_same se1 (fun j a z => hq2.2 j (by omega))
  have st2 : isStair Y ad K2 (b + 3) (upd f (62 + 5 * k + we) (f (62 + 5 * k + we) + 1)) := isStair_same st1 (fun j a z => hq2.2 j (by omega))
  have hp2 : K2 (b + 10) = hpR f g := (hq2.2 _ (by omega)).trans hp1
  have lg2 : isLog Y ad K2 (b + 11) (T_lists f) := hq2.1
  have en2 : isEnd Y K2 (b + 17) f := isEnd_same en1 (hq2.2 _ (by omega))
  have fr2 : ∀ j, j < b ∨ b + 18 ≤ j → K2 j = C j := fun j hj => (hq2.2 j (by omega)).trans (fr1 j hj)
  refine lv_aload_n F.1 F.2.1 dX6_noteEnd_32 rfl (lv_at hl 0 rfl) ?_
  refine gf_X6_28 F hP (by omega) ob2 (v := .ref (ad (b + 10))) rfl dX6_noteEnd_33 ?_
  refine gf_X6_101 F hP (by omega) hp2 (v := .int (f 11)) rfl dX6_noteEnd_36 ?_
  refine lv_topi (fun v3 ev3 => ?_)
  have ev3 : v3 = nI we := ev3.trans h11
  subst ev3
  refine lv_iconst (v := 1) F.1 F.2.1 dX6_noteEnd_39 (by decide) ?_
  refine lv_icmp_lt (tgt := 70) F.1 F.2.1 dX6_noteEnd_40 (by decide) (fun c4 => False.elim (i_nlt (nI_le (a := 1) he (by omega)) c4)) (fun c4 => ?_)
  refine lv_aload_n F.1 F.2.1 dX6_noteEnd_43 rfl (lv_at hl 0 rfl) ?_
  refine gf_X6_28 F hP (by omega) ob2 (v := .ref (ad (b + 10))) rfl dX6_noteEnd_44 ?_
  refine gf_X6_101 F hP (by omega) hp2 (v := .int (f 11)) rfl dX6_noteEnd_47 ?_
  refine lv_topi (fun v5 ev5 => ?_)
  have ev5 : v5 = nI we := ev5.trans h11
  subst ev5
  refine lv_iconst (v := 4) F.1 F.2.1 dX6_noteEnd_50 (by decide) ?_
  refine lv_icmp_gt (tgt := 70) F.1 F.2.1 dX6_noteEnd_51 (by decide) (fun c6 => False.elim (i_nlt (nI_le (b := 4) (by omega) (by decide)) c6)) (fun c6 => ?_)
  obtain ⟨qe, he0, heq⟩ := id en2
  refine lv_aload_n F.1 F.2.1 dX6_noteEnd_54 rfl (lv_at hl 0 rfl) ?_
  refine gf_X6_39 F hP (by omega) ob2 (v := .ref (ad (b + 17))) rfl dX6_noteEnd_55 ?_
  refine lv_aload_n F.1 F.2.1 dX6_noteEnd_58 rfl (lv_at hl 0 rfl) ?_
  refine gf_X6_28 F hP (by omega) ob2 (v := .ref (ad (b + 10))) rfl dX6_noteEnd_59 ?_
  refine gf_X6_101 F hP (by omega) hp2 (v := .int (f 11)) rfl dX6_noteEnd_62 ?_
  refine lv_topi (fun v7 ev7 => ?_)
  have ev7 : v7 = nI we := ev7.trans h11
  subst ev7
  refine lv_dup2_11 F.1 F.2.1 dX6_noteEnd_65 rfl rfl ?_
  refine w_iald F hP (by omega) he0 (k := we) rfl (by omega) (Nat.le_of_ble_eq_true rfl) (v := f (14 + we)) (heq we he (by omega)) dX6_noteEnd_66 ?_
  refine lv_iconst (v := 1) F.1 F.2.1 dX6_noteEnd_67 (by decide) ?_
  refine lv_iadd F.1 F.2.1 dX6_noteEnd_68 ?_
  obtain ⟨K3, eK3⟩ : ∃ z, z = va_up K2 (b + 17) (.inl (Y 0, 5, .inl (upd qe we (f (14 + we) + 1)))) := ⟨_, rfl⟩
  refine w_iast F hI hP hS (by omega) he0 (k := we) rfl (by omega) (by decide) (C1 := K3) (fun j => (congrFun eK3 j).symm) dX6_noteEnd_69 (fun H locs hP hS => ?_)
  have sf3 : ∀ j, j ≠ b + 17 → K3 j = K2 j := fun j hj => by rw [eK3, va_up_ne _ _ hj]
  have ob3 : K3 b = stO ad b (f 14) (f 19) := (sf3 _ (by omega)).trans ob2
  have se3 : isSett Y ad K3 (b + 1) f := isSett_same se2 (fun j a z => sf3 j (by omega))
  have st3 : isStair Y ad K3 (b + 3) (upd f (62 + 5 * k + we) (f (62 + 5 * k + we) + 1)) := isStair_same st2 (fun j a z => sf3 j (by omega))
  have hp3 : K3 (b + 10) = hpR f g := (sf3 _ (by omega)).trans hp2
  have lg3 : isLog Y ad K3 (b + 11) (T_lists f) := isLog_same lg2 (fun j a z => sf3 j (by omega))
  have en3 : isEnd Y K3 (b + 17) (upd f (14 + we) (f (14 + we) + 1)) := by rw [eK3]; exact isEnd_up heq
  have fr3 : ∀ j, j < b ∨ b + 18 ≤ j → K3 j = C j := fun j hj => (sf3 j (by omega)).trans (fr2 j hj)
  exact w_vret F hr hlocks hP hS dX6_noteEnd_70 ⟨by rw [ends_a h10 h11 hk he he3]; exact (isState_mk (F := T_lists (upd (upd f (14 + we) (f (14 + we) + 1)) (62 + 5 * k + we) (f (62 + 5 * k + we) + 1))) ob3 (ea_lo he he3 (by decide)) (ea_19 he3) se3 (fun q hq => ea_lo he he3 (by omega)) st3 ((ea_lo he he3 (by decide)).trans (upd_n (by omega)).symm) (fun q hq _ => ea_hi he3 hq) hp3 (fun q hq hq2 => ea_lo he he3 (by omega)) lg3 (fun q hq hq2 => ea_log he he3 hq hq2) en3 (fun q hq hq2 => ea_en hq2)), fr3⟩
set_option maxRecDepth 20000 in
set_option maxHeartbeats 4000000 in
/-- a run passed -/
theorem c_X6_noteEnd_p (l : Launch) (D : va_G) (Y : Nat → ClassId) (ad : Nat → Nat) (N : Nat) (hI : wI ad N) (C : Nat → va_E) (b : Nat) (hh : b + 17 < N) (f : Nat → Int32) (g : Int32) (hs : isState Y ad C b f g) (h11 : f 11 = 4) (h20 : 0 ≤ (f 20).toInt) (h20b : (f 20).toInt ≤ 10) : Met l yX6_noteEnd (wm yX6_noteEnd cX6_noteEnd 1 none) { frames := 2, cells := 0, slots := 0, locals := 46 } (wPc D Y ad N [.ref (ad b)] C) (wQv D ad N (fun C' => isState Y ad C' b (T_ends f) g ∧ ∀ j, j < b ∨ b + 18 ≤ j → C' j = C j)) 0 0 (wA ad N) := by
  refine wMet RX6 rfl (by decide +kernel) (Nat.le_of_ble_eq_true rfl) (lv := [(0, .ref (ad b))]) rfl ?_
  intro p e s m below meth c ls F hr hlocks hP hl
  have hS : va_S (wA ad N) s.heap s.heap [] := va_S.rf
  refine lv_aload_n F.1 F.2.1 dX6_noteEnd_0 rfl (lv_at hl 0 rfl) ?_
  refine gf_X6_21 F hP (by omega) hs.1 (v := .ref (ad (b + 3))) rfl dX6_noteEnd_1 ?_
  refine lv_aload_n F.1 F.2.1 dX6_noteEnd_4 rfl (lv_at hl 0 rfl) ?_
  refine gf_X6_28 F hP (by omega) hs.1 (v := .ref (ad (b + 10))) rfl dX6_noteEnd_5 ?_
  refine gf_X6_104 F hP (by omega) hs.2.2.2.1 (v := .int (f 10)) rfl dX6_noteEnd_8 ?_
  refine lv_aload_n F.1 F.2.1 dX6_noteEnd_11 rfl (lv_at hl 0 rfl) ?_
  refine gf_X6_28 F hP (by omega) hs.1 (v := .ref (ad (b + 10))) rfl dX6_noteEnd_12 ?_
  refine gf_X6_101 F hP (by omega) hs.2.2.2.1 (v := .int (f 11)) rfl dX6_noteEnd_15 ?_
  refine lv_topi (fun v1 ev1 => ?_)
  have ev1 : v1 = 4 := ev1.trans h11
  subst ev1
  refine w_callv F hP hS (c_X5_noteEnd_p l D Y ad N hI _ (b + 3) (by omega) _ _ hs.2.2.1.1 (f 10)) (cwVm 2 F.2.2.2.2.1 (fun _ h => h) mw_344 mw_341 mw_342 mw_343 mw_42 rfl rfl ydX5_noteEnd ⟨by decide, by decide⟩) (by omega) hs.2.2.1.1 rfl rfl hl.1 rfl (Nat.le_of_ble_eq_true rfl) dX6_noteEnd_18 ⟨Nat.zero_le _, Nat.zero_le _⟩ (fun C2 H locs hq hP hS => ?_)
  rw [hq] at hP
  refine lv_aload_n F.1 F.2.1 dX6_noteEnd_21 rfl (lv_at hl 0 rfl) ?_
  refine gf_X6_35 F hP (by omega) hs.1 (v := .ref (ad (b + 11))) rfl dX6_noteEnd_22 ?_
  refine lv_aload_n F.1 F.2.1 dX6_noteEnd_25 rfl (lv_at hl 0 rfl) ?_
  refine gf_X6_28 F hP (by omega) hs.1 (v := .ref (ad (b + 10))) rfl dX6_noteEnd_26 ?_
  refine w_callv F hP hS (c_X3_add l D Y ad N hI _ (b + 11) (by omega) f hs.2.2.2.2.1 (b + 10) (by omega) (by omega) g hs.2.2.2.1 h20 h20b) (cwVm 1 F.2.2.2.2.1 (fun _ h => h) mw_348 mw_345 mw_346 mw_347 mw_48 rfl rfl ydX3_add ⟨by decide, by decide⟩) (by omega) hs.2.2.2.2.1.1 rfl rfl hl.1 rfl (Nat.le_of_ble_eq_true rfl) dX6_noteEnd_29 ⟨Nat.zero_le _, Nat.zero_le _⟩ (fun K1 H locs hq1 hP hS => ?_)
  have ob1 : K1 b = stO ad b (f 14) (f 19) := (hq1.2 _ (by omega)).trans hs.1
  have se1 : isSett Y ad K1 (b + 1) f := isSett_same hs.2.1 (fun j a z => hq1.2 j (by omega))
  have st1 : isStair Y ad K1 (b + 3) f := isStair_same hs.2.2.1 (fun j a z => hq1.2 j (by omega))
  have hp1 : K1 (b + 10) = hpR f g := (hq1.2 _ (by omega)).trans hs.2.2.2.1
  have lg1 : isLog Y ad K1 (b + 11) (T_lists f) := hq1.1
  have en1 : isEnd Y K1 (b + 17) f := isEnd_same hs.2.2.2.2.2 (hq1.2 _ (by omega))
  have fr1 : ∀ j, j < b ∨ b + 18 ≤ j → K1 j = C j := fun j hj => (hq1.2 j (by omega)).trans ((fun _ _ => rfl) j hj)
  refine lv_aload_n F.1 F.2.1 dX6_noteEnd_32 rfl (lv_at hl 0 rfl) ?_
  refine gf_X6_28 F hP (by omega) ob1 (v := .ref (ad (b + 10))) rfl dX6_noteEnd_33 ?_
  refine gf_X6_101 F hP (by omega) hp1 (v := .int (f 11)) rfl dX6_noteEnd_36 ?_
  refine lv_topi (fun v2 ev2 => ?_)
  have ev2 : v2 = 4 := ev2.trans h11
  subst ev2
  refine lv_iconst (v := 1) F.1 F.2.1 dX6_noteEnd_39 (by decide) ?_
  refine lv_icmp_lt (tgt := 70) F.1 F.2.1 dX6_noteEnd_40 (by decide) (fun c3 => False.elim (absurd c3 (by decide))) (fun c3 => ?_)
  refine lv_aload_n F.1 F.2.1 dX6_noteEnd_43 rfl (lv_at hl 0 rfl) ?_
  refine gf_X6_28 F hP (by omega) ob1 (v := .ref (ad (b + 10))) rfl dX6_noteEnd_44 ?_
  refine gf_X6_101 F hP (by omega) hp1 (v := .int (f 11)) rfl dX6_noteEnd_47 ?_
  refine lv_topi (fun v4 ev4 => ?_)
  have ev4 : v4 = 4 := ev4.trans h11
  subst ev4
  refine lv_iconst (v := 4) F.1 F.2.1 dX6_noteEnd_50 (by decide) ?_
  refine lv_icmp_gt (tgt := 70) F.1 F.2.1 dX6_noteEnd_51 (by decide) (fun c5 => False.elim (absurd c5 (by decide))) (fun c5 => ?_)
  obtain ⟨qe, he0, heq⟩ := id en1
  refine lv_aload_n F.1 F.2.1 dX6_noteEnd_54 rfl (lv_at hl 0 rfl) ?_
  refine gf_X6_39 F hP (by omega) ob1 (v := .ref (ad (b + 17))) rfl dX6_noteEnd_55 ?_
  refine lv_aload_n F.1 F.2.1 dX6_noteEnd_58 rfl (lv_at hl 0 rfl) ?_
  refine gf_X6_28 F hP (by omega) ob1 (v := .ref (ad (b + 10))) rfl dX6_noteEnd_59 ?_
  refine gf_X6_101 F hP (by omega) hp1 (v := .int (f 11)) rfl dX6_noteEnd_62 ?_
  refine lv_topi (fun v6 ev6 => ?_)
  have ev6 : v6 = 4 := ev6.trans h11
  subst ev6
  refine lv_dup2_11 F.1 F.2.1 dX6_noteEnd_65 rfl rfl ?_
  refine w_iald F hP (by omega) he0 (k := 4) rfl (by decide) (Nat.le_of_ble_eq_true rfl) (v := f 18) (heq 4 (by decide) (by decide)) dX6_noteEnd_66 ?_
  refine lv_iconst (v := 1) F.1 F.2.1 dX6_noteEnd_67 (by decide) ?_
  refine lv_iadd F.1 F.2.1 dX6_noteEnd_68 ?_
  obtain ⟨K2, eK2⟩ : ∃ z, z = va_up K1 (b + 17) (.inl (Y 0, 5, .inl (upd qe 4 (f 18 + 1)))) := ⟨_, rfl⟩
  refine w_iast F hI hP hS (by omega) he0 (k := 4) rfl (by decide) (by decide) (C1 := K2) (fun j => (congrFun eK2 j).symm) dX6_noteEnd_69 (fun H locs hP hS => ?_)
  have sf2 : ∀ j, j ≠ b + 17 → K2 j = K1 j := fun j hj => by rw [eK2, va_up_ne _ _ hj]
  have ob2 : K2 b = stO ad b (f 14) (f 19) := (sf2 _ (by omega)).trans ob1
  have se2 : isSett Y ad K2 (b + 1) f := isSett_same se1 (fun j a z => sf2 j (by omega))
  have st2 : isStair Y ad K2 (b + 3) f := isStair_same st1 (fun j a z => sf2 j (by omega))
  have hp2 : K2 (b + 10) = hpR f g := (sf2 _ (by omega)).trans hp1
  have lg2 : isLog Y ad K2 (b + 11) (T_lists f) := isLog_same lg1 (fun j a z => sf2 j (by omega))
  have en2 : isEnd Y K2 (b + 17) (upd f (14 + 4) (f 18 + 1)) := by rw [eK2]; exact isEnd_up heq
  have fr2 : ∀ j, j < b ∨ b + 18 ≤ j → K2 j = C j := fun j hj => (sf2 j (by omega)).trans (fr1 j hj)
  exact w_vret F hr hlocks hP hS dX6_noteEnd_70 ⟨by rw [ends_p h11]; exact (isState_mk (F := T_lists (upd f 18 (f 18 + 1))) ob2 (ep_lo (by decide) (Or.inl (by decide))) (ep_lo (by decide) (Or.inl (by decide))) se2 (fun q hq => ep_lo (by omega) (by omega)) st2 (ep_lo (by decide) (Or.inl (by decide))) (fun q hq _ => ep_lo (by omega) (by omega)) hp2 (fun q hq hq2 => ep_lo (by omega) (by omega)) lg2 (fun q hq hq2 => ep_log hq hq2) en2 (fun q hq hq2 => lists_out (by omega))), fr2⟩
/-- how a run that is over can have ended -/
def endedOk (f : Nat → Int32) : Prop := f 11 = 4 ∨ ∃ k we : Nat, k < 20 ∧ nI k < f 4 ∧ 1 ≤ we ∧ we ≤ 3 ∧ f 10 = nI k ∧ f 11 = nI we
theorem c_X6_noteEnd (l : Launch) (D : va_G) (Y : Nat → ClassId) (ad : Nat → Nat) (N : Nat) (hI : wI ad N) (C : Nat → va_E) (b : Nat) (hh : b + 17 < N) (f : Nat → Int32) (g : Int32) (hs : isState Y ad C b f g) (hE : endedOk f) (h20 : 0 ≤ (f 20).toInt) (h20b : (f 20).toInt ≤ 10) : Met l yX6_noteEnd (wm yX6_noteEnd cX6_noteEnd 1 none) { frames := 2, cells := 0, slots := 0, locals := 46 } (wPc D Y ad N [.ref (ad b)] C) (wQv D ad N (fun C' => isState Y ad C' b (T_ends f) g ∧ ∀ j, j < b ∨ b + 18 ≤ j → C' j = C j)) 0 0 (wA ad N) := by
  rcases hE with h | ⟨k, we, h1, h2, h3, h4, h5, h6⟩
  · exact c_X6_noteEnd_p l D Y ad N hI C b hh f g hs h h20 h20b
  · exact c_X6_noteEnd_a l D Y ad N hI C b hh f g hs k we h1 h2 h3 h4 h5 h6 h20 h20b
theorem T_roll_fr (n : Nat) : ∀ {f : Nat → Int32} {g : Int32} {q : Nat}, q ≠ 7 → q ≠ 8 → q ≠ 9 → q ≠ 10 → q ≠ 11 → (T_roll n f g).1 q = f q := by
  induction n with
  | zero => intro f g q _ _ _ _ _; rfl
  | succ n ih =>
    intro f g q a b c d e
    show (if f 11 = 0 then T_roll n (T_step f g).1 (T_step f g).2 else (f, g)).1 q = f q
    by_cases h : f 11 = 0
    · rw [if_pos h, ih a b c d e, T_step_fr a b c d e]
    · rw [if_neg h]
theorem step_how {f : Nat → Int32} {g : Int32} (hs : okS f) {B : Int} (ho : okH B f) (h11 : f 11 = 0) : (T_step f g).1 11 = 0 ∨ endedOk (T_step f g).1 := by
  have hk := nI_rd (x := f 10) (M := 20) ho.2.2.2.1.1 (by have := ho.2.2.2.1.2; have := hs.2.2.2.2.1.2; omega)
  unfold T_step
  by_cases a : f 10 < f 4
  · rw [if_pos a]
    have hlt := Int32.lt_iff_toInt_lt.mp a
    have hk20 : (f 10).toNatClampNeg < 20 := by have := hs.2.2.2.2.1.2; omega
    generalize (f 10).toNatClampNeg = k at hk hk20
    have m10 : (T_meet k f).1 10 = f 10 := T_meet_fr (by decide) (by decide) (by decide)
    have m4 : (T_meet k f).1 4 = f 4 := T_meet_fr (by decide) (by decide) (by decide)
    have m11 : (T_meet k f).1 11 = f 11 := T_meet_fr (by decide) (by decide) (by decide)
    have fin : ∀ we : Nat, 1 ≤ we → we ≤ 3 → endedOk (upd (T_meet k f).1 11 (nI we)) := fun we h1 h2 => Or.inr ⟨k, we, hk20, by rw [upd_n (by decide), m4, ← hk.1]; exact a, h1, h2, by rw [upd_n (by decide), m10]; exact hk.1, upd_s⟩
    unfold T_pass
    by_cases b : (T_meet k f).2 = 0
    · rw [if_pos b]
      by_cases d : f 0 ≤ iabs ((T_meet k f).1 8)
      · rw [if_pos d, if_neg (show ¬ (1 : Int32) = 0 by decide)]
        exact Or.inr (fin 1 (by decide) (by decide))
      · rw [if_neg d, if_pos (show (0 : Int32) = 0 from rfl)]
        by_cases c : f 10 + 1 < f 4
        · rw [if_pos c]
          left
          show upd (T_meet k f).1 10 (f 10 + 1) 11 = 0
          rw [upd_n (by decide), m11, h11]
        · rw [if_neg c]
          right; left
          show upd (upd (T_meet k f).1 10 (f 10 + 1)) 11 4 11 = 4
          exact upd_s
    · rw [if_neg b, if_neg b]
      right
      rcases T_meet_how k f with q | q | q
      · exact absurd q b
      · show endedOk (upd (T_meet k f).1 11 (T_meet k f).2)
        rw [q]; exact fin 2 (by decide) (by decide)
      · show endedOk (upd (T_meet k f).1 11 (T_meet k f).2)
        rw [q]; exact fin 3 (by decide) (by decide)
  · rw [if_neg a]
    right; left
    show upd f 11 4 11 = 4
    exact upd_s
theorem roll_how (n : Nat) : ∀ {f : Nat → Int32} {g : Int32} {B : Int}, okS f → okH B f → B + 25 * n ≤ 900000000 → (f 11 = 0 ∨ endedOk f) → okH (B + 25 * n) (T_roll n f g).1 ∧ ((T_roll n f g).1 11 = 0 ∨ endedOk (T_roll n f g).1) := by
  induction n with
  | zero => intro f g B hs ho hB h; exact ⟨by rw [show B + 25 * ((0 : Nat) : Int) = B by omega]; exact ho, h⟩
  | succ n ih =>
    intro f g B hs ho hB h
    show okH _ (if f 11 = 0 then T_roll n (T_step f g).1 (T_step f g).2 else (f, g)).1 ∧ ((if f 11 = 0 then T_roll n (T_step f g).1 (T_step f g).2 else (f, g)).1 11 = 0 ∨ endedOk (if f 11 = 0 then T_roll n (T_step f g).1 (T_step f g).2 else (f, g)).1)
    by_cases h11 : f 11 = 0
    · rw [if_pos h11]
      have h2 := okH_step (g := g) (by omega) hs ho h11
      have h3 := ih (g := (T_step f g).2) (okS_of hs (fun q a b c d e => T_step_fr a b c d e)) h2 (by omega) (step_how hs ho h11)
      exact ⟨by rw [show B + 25 * ((n + 1 : Nat) : Int) = B + 25 + 25 * n by omega]; exact h3.1, h3.2⟩
    · rw [if_neg h11]
      refine ⟨?_, h⟩
      obtain ⟨a1, a2, a3, a4, a5⟩ := ho
      have a2b : -(B + 25 * ((n + 1 : Nat) : Int)) ≤ (f 8).toInt ∧ (f 8).toInt ≤ B + 25 * ((n + 1 : Nat) : Int) := by omega
      exact ⟨a1, a2b, a3, a4, a5⟩
theorem rolled_out {n : Nat} {f : Nat → Int32} {g : Int32} (h : (T_roll n f g).1 11 = 0) : T_rolled n f g = (T_roll n f g).1 := if_pos h
theorem rolled_end {n : Nat} {f : Nat → Int32} {g : Int32} (h : ¬ (T_roll n f g).1 11 = 0) : T_rolled n f g = T_ends (T_roll n f g).1 := if_neg h
theorem ends_11 (f : Nat → Int32) (hE : endedOk f) : T_ends f 11 = f 11 := by
  rcases hE with h | ⟨k, we, h1, h2, h3, h4, h5, h6⟩
  · rw [ends_p h]; exact ep_lo (by decide) (Or.inl (by decide))
  · rw [ends_a h5 h6 h1 h3 h4]; exact ea_lo h3 h4 (by decide)
set_option maxRecDepth 20000 in
set_option maxHeartbeats 4000000 in
/-- the hoop rolls over n parts -/
theorem c_X6_rollOver (l : Launch) (D : va_G) (Y : Nat → ClassId) (ad : Nat → Nat) (N : Nat) (hI : wI ad N) (C : Nat → va_E) (b : Nat) (hh : b + 17 < N) (f : Nat → Int32) (g : Int32) (hs : isState Y ad C b f g) (B : Int) (n : Nat) (hn : n ≤ 21) (hB : B + 525 ≤ 900000000) (hok : okS f) (ho : okH B f) (h5 : f 5 = 1) (h11 : f 11 = 0) (h20 : 0 ≤ (f 20).toInt) (h20b : (f 20).toInt ≤ 10) (x : Int32) (ex : x = nI n) : Met l yX6_rollOver (wm yX6_rollOver cX6_rollOver 2 (some .int)) { frames := 5, cells := 0, slots := 0, locals := 108 } (wPc D Y ad N [.ref (ad b), .int x] C) (wQi D ad N (fun r C' => r = T_rolled n f g 11 ∧ isState Y ad C' b (T_rolled n f g) (T_roll n f g).2 ∧ ∀ j, j < b ∨ b + 18 ≤ j → C' j = C j)) 0 0 (wA ad N) := by
  subst ex
  refine wMet RX6 rfl (by decide +kernel) (Nat.le_of_ble_eq_true rfl) (lv := [(0, .ref (ad b)), (1, .int (nI n))]) rfl ?_
  intro p e s m below meth c ls F hr hlocks hP hl
  have hS : va_S (wA ad N) s.heap s.heap [] := va_S.rf
  refine lv_aload_n F.1 F.2.1 dX6_rollOver_0 rfl (lv_at hl 0 rfl) ?_
  refine gf_X6_28 F hP (by omega) hs.1 (v := .ref (ad (b + 10))) rfl dX6_rollOver_1 ?_
  refine lv_iload_n F.1 F.2.1 dX6_rollOver_4 rfl (lv_at hl 1 rfl) ?_
  refine lv_aload_n F.1 F.2.1 dX6_rollOver_5 rfl (lv_at hl 0 rfl) ?_
  refine gf_X6_21 F hP (by omega) hs.1 (v := .ref (ad (b + 3))) rfl dX6_rollOver_6 ?_
  refine lv_aload_n F.1 F.2.1 dX6_rollOver_9 rfl (lv_at hl 0 rfl) ?_
  refine gf_X6_12 F hP (by omega) hs.1 (v := .ref (ad (b + 1))) rfl dX6_rollOver_10 ?_
  refine w_callv F hP hS (c_X1_rollOver l D Y ad N hI _ (b + 10) (by omega) f g hs.2.2.2.1 B n (b + 3) (b + 1) hn hB (by omega) (by omega) (by omega) (by omega) hs.2.2.1 hs.2.1 hok ho h5) (cwVm 3 F.2.2.2.2.1 (fun _ h => h) mw_294 mw_291 mw_292 mw_293 mw_30 rfl rfl ydX1_rollOver ⟨by decide, by decide⟩) (by omega) hs.2.2.2.1 rfl rfl hl.1 rfl (Nat.le_of_ble_eq_true rfl) dX6_rollOver_13 ⟨Nat.zero_le _, Nat.zero_le _⟩ (fun K1 H locs hq1 hP hS => ?_)
  have sf1 : ∀ j, j ≠ b + 10 → K1 j = C j := fun j hj => by rw [hq1, va_up_ne _ _ hj]
  obtain ⟨F1, eF⟩ : ∃ z, z = (T_roll n f g).1 := ⟨_, rfl⟩
  obtain ⟨G1, eG⟩ : ∃ z, z = (T_roll n f g).2 := ⟨_, rfl⟩
  rw [← eF, ← eG] at hq1
  have ob1 : K1 b = stO ad b (f 14) (f 19) := (sf1 _ (by omega)).trans hs.1
  have se1 : isSett Y ad K1 (b + 1) f := isSett_same hs.2.1 (fun j a z => sf1 j (by omega))
  have st1 : isStair Y ad K1 (b + 3) f := isStair_same hs.2.2.1 (fun j a z => sf1 j (by omega))
  have hp1 : K1 (b + 10) = hpR F1 G1 := by rw [hq1]; exact va_up_self _ _ _
  have lg1 : isLog Y ad K1 (b + 11) f := isLog_same hs.2.2.2.2.1 (fun j a z => sf1 j (by omega))
  have en1 : isEnd Y K1 (b + 17) f := isEnd_same hs.2.2.2.2.2 (sf1 _ (by omega))
  have fr1 : ∀ j, j < b ∨ b + 18 ≤ j → K1 j = C j := fun j hj => (sf1 j (by omega)).trans ((fun _ _ => rfl) j hj)
  have hfr : ∀ q, q ≠ 7 → q ≠ 8 → q ≠ 9 → q ≠ 10 → q ≠ 11 → F1 q = f q := fun q a z c d x => by rw [eF]; exact T_roll_fr n a z c d x
  have hhow := roll_how n (g := g) hok ho (by omega) (Or.inl h11)
  rw [← eF] at hhow
  have h51 : F1 5 = 1 := (hfr 5 (by decide) (by decide) (by decide) (by decide) (by decide)).trans h5
  have hs1 : isState Y ad K1 b F1 G1 := (isState_mk (F := F1) ob1 (hfr _ (by decide) (by decide) (by decide) (by decide) (by decide)) (hfr _ (by decide) (by decide) (by decide) (by decide) (by decide)) se1 (fun q hq => hfr q (by omega) (by omega) (by omega) (by omega) (by omega)) st1 (hfr _ (by decide) (by decide) (by decide) (by decide) (by decide)) (fun q hq _ => hfr q (by omega) (by omega) (by omega) (by omega) (by omega)) hp1 (fun q hq _ => rfl) lg1 (fun q hq _ => hfr q (by omega) (by omega) (by omega) (by omega) (by omega)) en1 (fun q hq _ => hfr q (by omega) (by omega) (by omega) (by omega) (by omega)))
  refine lv_aload_n F.1 F.2.1 dX6_rollOver_16 rfl (lv_at hl 0 rfl) ?_
  refine gf_X6_28 F hP (by omega) ob1 (v := .ref (ad (b + 10))) rfl dX6_rollOver_17 ?_
  refine w_calli F hP hS (c_X1_rolls l D Y ad N hI _ (b + 10) (by omega) (F1 5) (F1 6) (F1 7) (F1 8) (F1 9) (F1 10) (F1 11) (F1 12) (F1 13) G1 hp1 (Or.inr h51)) (cwVm 0 F.2.2.2.2.1 (fun _ h => h) mw_286 mw_283 mw_284 mw_285 mw_30 rfl rfl ydX1_rolls ⟨by decide, by decide⟩) (by omega) hp1 rfl rfl hl.1 rfl (Nat.le_of_ble_eq_true rfl) dX6_rollOver_20 ⟨Nat.zero_le _, Nat.zero_le _⟩ (fun r C2 H locs hq hP hS => ?_)
  obtain ⟨hq1, hbrr1⟩ := hq; rw [hq1] at hP; generalize r = rr1 at hbrr1 ⊢
  refine lv_if_ne (tgt := 30) F.1 F.2.1 dX6_rollOver_23 (by decide) (fun c2 => ?_) (fun c2 => ?_)
  · refine lv_aload_n F.1 F.2.1 dX6_rollOver_30 rfl (lv_at hl 0 rfl) ?_
    refine gf_X6_28 F hP (by omega) ob1 (v := .ref (ad (b + 10))) rfl dX6_rollOver_31 ?_
    refine gf_X6_101 F hP (by omega) hp1 (v := .int (F1 11)) rfl dX6_rollOver_34 ?_
    exact w_iret F hr hlocks hP hS dX6_rollOver_37 (by have e := rolled_out (n := n) (f := f) (g := g) (by rw [← eF]; exact (b_t hbrr1 c2).2); rw [← eF] at e; exact ⟨by rw [e], by rw [e, ← eG]; exact hs1, fr1⟩)
  · refine lv_aload_n F.1 F.2.1 dX6_rollOver_26 rfl (lv_at hl 0 rfl) ?_
    have hne : ¬ F1 11 = 0 := fun q => b_f hbrr1 c2 ⟨h51, q⟩
    have hE : endedOk F1 := hhow.2.resolve_left hne
    refine w_callv F hP hS (c_X6_noteEnd l D Y ad N hI _ b hh F1 G1 hs1 hE (by rw [hfr 20 (by decide) (by decide) (by decide) (by decide) (by decide)]; exact h20) (by rw [hfr 20 (by decide) (by decide) (by decide) (by decide) (by decide)]; exact h20b)) (cwVm 0 F.2.2.2.2.1 (fun _ h => h) mw_340 mw_337 mw_338 mw_339 mw_15 rfl rfl ydX6_noteEnd ⟨by decide, by decide⟩) (by omega) ob1 rfl rfl hl.1 rfl (Nat.le_of_ble_eq_true rfl) dX6_rollOver_27 ⟨Nat.zero_le _, Nat.zero_le _⟩ (fun K2 H locs hq2 hP hS => ?_)
    obtain ⟨F2, eF2⟩ : ∃ z, z = T_ends F1 := ⟨_, rfl⟩
    rw [← eF2] at hq2
    have fr2 : ∀ j, j < b ∨ b + 18 ≤ j → K2 j = C j := fun j hj => (hq2.2 j hj).trans (fr1 j hj)
    refine lv_aload_n F.1 F.2.1 dX6_rollOver_30 rfl (lv_at hl 0 rfl) ?_
    refine gf_X6_28 F hP (by omega) hq2.1.1 (v := .ref (ad (b + 10))) rfl dX6_rollOver_31 ?_
    refine gf_X6_101 F hP (by omega) hq2.1.2.2.2.1 (v := .int (F2 11)) rfl dX6_rollOver_34 ?_
    exact w_iret F hr hlocks hP hS dX6_rollOver_37 (by have e := rolled_end (n := n) (f := f) (g := g) (by rw [← eF]; exact hne); rw [← eF, ← eF2] at e; exact ⟨by rw [e], by rw [e, ← eG]; exact hq2.1, fr2⟩)
def T_num (f : Nat → Int32) (x : Int32) : Int32 := if x = 0 then f 4 else if x = 1 then f 14 else if x = 2 then f 15 else if x = 3 then f 16 else if x = 4 then f 17 else if x = 5 then f 18 else if x = 6 then T_least f (f 4).toNatClampNeg else if x = 7 then T_sum 0 f (f 4).toNatClampNeg else if x = 8 then T_sum 1 f (f 4).toNatClampNeg else f 19
set_option maxRecDepth 20000 in
set_option maxHeartbeats 4000000 in
/-- a number -/
theorem c_X6_number (l : Launch) (D : va_G) (Y : Nat → ClassId) (ad : Nat → Nat) (N : Nat) (hI : wI ad N) (C : Nat → va_E) (b : Nat) (hh : b + 17 < N) (f : Nat → Int32) (g : Int32) (hs : isState Y ad C b f g) (x : Int32) (hok : okS f) : Met l yX6_number (wm yX6_number cX6_number 2 (some .int)) { frames := 3, cells := 0, slots := 0, locals := 66 } (wPc D Y ad N [.ref (ad b), .int (x)] C) (wQi D ad N (fun r C' => C' = C ∧ r = T_num f x)) 0 0 (wA ad N) := by
  refine wMet RX6 rfl (by decide +kernel) (Nat.le_of_ble_eq_true rfl) (lv := [(0, .ref (ad b)), (1, .int (x))]) rfl ?_
  intro p e s m below meth c ls F hr hlocks hP hl
  have hS : va_S (wA ad N) s.heap s.heap [] := va_S.rf
  refine lv_iload_n F.1 F.2.1 dX6_number_0 rfl (lv_at hl 1 rfl) ?_
  by_cases k1 : x = 0
  · refine lv_tableIn (off := 51) (tgt := 52) F.1 F.2.1 dX6_number_1 (by rw [k1]; decide) (by rw [k1]; decide) (by rw [k1]; rfl) (by decide) ?_
    refine lv_aload_n F.1 F.2.1 dX6_number_52 rfl (lv_at hl 0 rfl) ?_
    refine gf_X6_21 F hP (by omega) hs.1 (v := .ref (ad (b + 3))) rfl dX6_number_53 ?_
    refine gf_X6_69 F hP (by omega) hs.2.2.1.1 (v := .int (f 4)) rfl dX6_number_56 ?_
    exact w_iret F hr hlocks hP hS dX6_number_59 ⟨rfl, by simp only [T_num, if_pos k1]⟩
  · by_cases k2 : x = 1
    · refine lv_tableIn (off := 59) (tgt := 60) F.1 F.2.1 dX6_number_1 (by rw [k2]; decide) (by rw [k2]; decide) (by rw [k2]; rfl) (by decide) ?_
      refine lv_aload_n F.1 F.2.1 dX6_number_60 rfl (lv_at hl 0 rfl) ?_
      refine gf_X6_43 F hP (by omega) hs.1 (v := .int (f 14)) rfl dX6_number_61 ?_
      exact w_iret F hr hlocks hP hS dX6_number_64 ⟨rfl, by simp only [T_num, if_neg k1, if_pos k2]⟩
    · by_cases k3 : x = 2
      · refine lv_tableIn (off := 64) (tgt := 65) F.1 F.2.1 dX6_number_1 (by rw [k3]; decide) (by rw [k3]; decide) (by rw [k3]; rfl) (by decide) ?_
        obtain ⟨qe, he0, heq⟩ := id hs.2.2.2.2.2
        refine lv_aload_n F.1 F.2.1 dX6_number_65 rfl (lv_at hl 0 rfl) ?_
        refine gf_X6_39 F hP (by omega) hs.1 (v := .ref (ad (b + 17))) rfl dX6_number_66 ?_
        refine lv_iconst (v := 1) F.1 F.2.1 dX6_number_69 (by decide) ?_
        refine w_iald F hP (by omega) he0 (k := 1) rfl (by decide) (Nat.le_of_ble_eq_true rfl) (v := f 15) (heq 1 (by decide) (by decide)) dX6_number_70 ?_
        exact w_iret F hr hlocks hP hS dX6_number_71 ⟨rfl, by simp only [T_num, if_neg k1, if_neg k2, if_pos k3]⟩
      · by_cases k4 : x = 3
        · refine lv_tableIn (off := 71) (tgt := 72) F.1 F.2.1 dX6_number_1 (by rw [k4]; decide) (by rw [k4]; decide) (by rw [k4]; rfl) (by decide) ?_
          obtain ⟨qe, he0, heq⟩ := id hs.2.2.2.2.2
          refine lv_aload_n F.1 F.2.1 dX6_number_72 rfl (lv_at hl 0 rfl) ?_
          refine gf_X6_39 F hP (by omega) hs.1 (v := .ref (ad (b + 17))) rfl dX6_number_73 ?_
          refine lv_iconst (v := 2) F.1 F.2.1 dX6_number_76 (by decide) ?_
          refine w_iald F hP (by omega) he0 (k := 2) rfl (by decide) (Nat.le_of_ble_eq_true rfl) (v := f 16) (heq 2 (by decide) (by decide)) dX6_number_77 ?_
          exact w_iret F hr hlocks hP hS dX6_number_78 ⟨rfl, by simp only [T_num, if_neg k1, if_neg k2, if_neg k3, if_pos k4]⟩
        · by_cases k5 : x = 4
          · refine lv_tableIn (off := 78) (tgt := 79) F.1 F.2.1 dX6_number_1 (by rw [k5]; decide) (by rw [k5]; decide) (by rw [k5]; rfl) (by decide) ?_
            obtain ⟨qe, he0, heq⟩ := id hs.2.2.2.2.2
            refine lv_aload_n F.1 F.2.1 dX6_number_79 rfl (lv_at hl 0 rfl) ?_
            refine gf_X6_39 F hP (by omega) hs.1 (v := .ref (ad (b + 17))) rfl dX6_number_80 ?_
            refine lv_iconst (v := 3) F.1 F.2.1 dX6_number_83 (by decide) ?_
            refine w_iald F hP (by omega) he0 (k := 3) rfl (by decide) (Nat.le_of_ble_eq_true rfl) (v := f 17) (heq 3 (by decide) (by decide)) dX6_number_84 ?_
            exact w_iret F hr hlocks hP hS dX6_number_85 ⟨rfl, by simp only [T_num, if_neg k1, if_neg k2, if_neg k3, if_neg k4, if_pos k5]⟩
          · by_cases k6 : x = 5
            · refine lv_tableIn (off := 85) (tgt := 86) F.1 F.2.1 dX6_number_1 (by rw [k6]; decide) (by rw [k6]; decide) (by rw [k6]; rfl) (by decide) ?_
              obtain ⟨qe, he0, heq⟩ := id hs.2.2.2.2.2
              refine lv_aload_n F.1 F.2.1 dX6_number_86 rfl (lv_at hl 0 rfl) ?_
              refine gf_X6_39 F hP (by omega) hs.1 (v := .ref (ad (b + 17))) rfl dX6_number_87 ?_
              refine lv_iconst (v := 4) F.1 F.2.1 dX6_number_90 (by decide) ?_
              refine w_iald F hP (by omega) he0 (k := 4) rfl (by decide) (Nat.le_of_ble_eq_true rfl) (v := f 18) (heq 4 (by decide) (by decide)) dX6_number_91 ?_
              exact w_iret F hr hlocks hP hS dX6_number_92 ⟨rfl, by simp only [T_num, if_neg k1, if_neg k2, if_neg k3, if_neg k4, if_neg k5, if_pos k6]⟩
            · by_cases k7 : x = 6
              · refine lv_tableIn (off := 92) (tgt := 93) F.1 F.2.1 dX6_number_1 (by rw [k7]; decide) (by rw [k7]; decide) (by rw [k7]; rfl) (by decide) ?_
                refine lv_aload_n F.1 F.2.1 dX6_number_93 rfl (lv_at hl 0 rfl) ?_
                refine gf_X6_21 F hP (by omega) hs.1 (v := .ref (ad (b + 3))) rfl dX6_number_94 ?_
                refine w_calli F hP hS (c_X5_narrowestGate l D Y ad N hI _ (b + 3) (by omega) f hs.2.2.1 hok) (cwVm 0 F.2.2.2.2.1 (fun _ h => h) mw_491 mw_488 mw_489 mw_490 mw_42 rfl rfl ydX5_narrowestGate ⟨by decide, by decide⟩) (by omega) hs.2.2.1.1 rfl rfl hl.1 rfl (Nat.le_of_ble_eq_true rfl) dX6_number_97 ⟨Nat.zero_le _, Nat.zero_le _⟩ (fun r C2 H locs hq hP hS => ?_)
                obtain ⟨hq1, hq2⟩ := hq; rw [hq1] at hP
                subst hq2
                exact w_iret F hr hlocks hP hS dX6_number_100 ⟨rfl, by simp only [T_num, if_neg k1, if_neg k2, if_neg k3, if_neg k4, if_neg k5, if_neg k6, if_pos k7]⟩
              · by_cases k8 : x = 7
                · refine lv_tableIn (off := 100) (tgt := 101) F.1 F.2.1 dX6_number_1 (by rw [k8]; decide) (by rw [k8]; decide) (by rw [k8]; rfl) (by decide) ?_
                  refine lv_aload_n F.1 F.2.1 dX6_number_101 rfl (lv_at hl 0 rfl) ?_
                  refine gf_X6_21 F hP (by omega) hs.1 (v := .ref (ad (b + 3))) rfl dX6_number_102 ?_
                  refine lv_iconst (v := 0) F.1 F.2.1 dX6_number_105 (by decide) ?_
                  refine w_calli F hP hS (c_X5_sumOf l D Y ad N hI _ (b + 3) (by omega) f hs.2.2.1 hok 0) (cwVm 1 F.2.2.2.2.1 (fun _ h => h) mw_496 mw_493 mw_494 mw_495 mw_42 rfl rfl ydX5_sumOf ⟨by decide, by decide⟩) (by omega) hs.2.2.1.1 rfl rfl hl.1 rfl (Nat.le_of_ble_eq_true rfl) dX6_number_106 ⟨Nat.zero_le _, Nat.zero_le _⟩ (fun r C2 H locs hq hP hS => ?_)
                  obtain ⟨hq1, hq2⟩ := hq; rw [hq1] at hP
                  subst hq2
                  exact w_iret F hr hlocks hP hS dX6_number_109 ⟨rfl, by simp only [T_num, if_neg k1, if_neg k2, if_neg k3, if_neg k4, if_neg k5, if_neg k6, if_neg k7, if_pos k8]⟩
                · by_cases k9 : x = 8
                  · refine lv_tableIn (off := 109) (tgt := 110) F.1 F.2.1 dX6_number_1 (by rw [k9]; decide) (by rw [k9]; decide) (by rw [k9]; rfl) (by decide) ?_
                    refine lv_aload_n F.1 F.2.1 dX6_number_110 rfl (lv_at hl 0 rfl) ?_
                    refine gf_X6_21 F hP (by omega) hs.1 (v := .ref (ad (b + 3))) rfl dX6_number_111 ?_
                    refine lv_iconst (v := 1) F.1 F.2.1 dX6_number_114 (by decide) ?_
                    refine w_calli F hP hS (c_X5_sumOf l D Y ad N hI _ (b + 3) (by omega) f hs.2.2.1 hok 1) (cwVm 1 F.2.2.2.2.1 (fun _ h => h) mw_496 mw_493 mw_494 mw_495 mw_42 rfl rfl ydX5_sumOf ⟨by decide, by decide⟩) (by omega) hs.2.2.1.1 rfl rfl hl.1 rfl (Nat.le_of_ble_eq_true rfl) dX6_number_115 ⟨Nat.zero_le _, Nat.zero_le _⟩ (fun r C2 H locs hq hP hS => ?_)
                    obtain ⟨hq1, hq2⟩ := hq; rw [hq1] at hP
                    subst hq2
                    exact w_iret F hr hlocks hP hS dX6_number_118 ⟨rfl, by simp only [T_num, if_neg k1, if_neg k2, if_neg k3, if_neg k4, if_neg k5, if_neg k6, if_neg k7, if_neg k8, if_pos k9]⟩
                  · refine lv_tableOut (tgt := 119) F.1 F.2.1 dX6_number_1 (by have := lv_neT k1 (a := 0) rfl; have := lv_neT k2 (a := 1) rfl; have := lv_neT k3 (a := 2) rfl; have := lv_neT k4 (a := 3) rfl; have := lv_neT k5 (a := 4) rfl; have := lv_neT k6 (a := 5) rfl; have := lv_neT k7 (a := 6) rfl; have := lv_neT k8 (a := 7) rfl; have := lv_neT k9 (a := 8) rfl; omega) (by decide) ?_
                    refine lv_aload_n F.1 F.2.1 dX6_number_119 rfl (lv_at hl 0 rfl) ?_
                    refine gf_X6_47 F hP (by omega) hs.1 (v := .int (f 19)) rfl dX6_number_120 ?_
                    exact w_iret F hr hlocks hP hS dX6_number_123 ⟨rfl, by simp only [T_num, if_neg k1, if_neg k2, if_neg k3, if_neg k4, if_neg k5, if_neg k6, if_neg k7, if_neg k8, if_neg k9]⟩
set_option maxRecDepth 20000 in
set_option maxHeartbeats 4000000 in
/-- a state copied -/
theorem c_X6_copyFrom (l : Launch) (D : va_G) (Y : Nat → ClassId) (ad : Nat → Nat) (N : Nat) (hI : wI ad N) (C : Nat → va_E) (b b2 : Nat) (hh : b + 17 < N) (hh2 : b2 + 17 < N) (hd : b + 18 ≤ b2 ∨ b2 + 18 ≤ b) (f f2 : Nat → Int32) (g g2 : Int32) (hs : isState Y ad C b f g) (hso : isState Y ad C b2 f2 g2) (hz : f2 5 = 0 ∨ f2 5 = 1) : Met l yX6_copyFrom (wm yX6_copyFrom cX6_copyFrom 2 none) { frames := 2, cells := 0, slots := 0, locals := 46 } (wPc D Y ad N [.ref (ad b), .ref (ad b2)] C) (wQv D ad N (fun C' => isState Y ad C' b f2 g2 ∧ ∀ j, j < b ∨ b + 18 ≤ j → C' j = C j)) 0 0 (wA ad N) := by
  refine wMet RX6 rfl (by decide +kernel) (Nat.le_of_ble_eq_true rfl) (lv := [(0, .ref (ad b)), (1, .ref (ad b2))]) rfl ?_
  intro p e s m below meth c ls F hr hlocks hP hl
  have hS : va_S (wA ad N) s.heap s.heap [] := va_S.rf
  refine lv_aload_n F.1 F.2.1 dX6_copyFrom_0 rfl (lv_at hl 0 rfl) ?_
  refine gf_X6_12 F hP (by omega) hs.1 (v := .ref (ad (b + 1))) rfl dX6_copyFrom_1 ?_
  refine lv_aload_n F.1 F.2.1 dX6_copyFrom_4 rfl (lv_at hl 1 rfl) ?_
  refine gf_X6_12 F hP (by omega) hso.1 (v := .ref (ad (b2 + 1))) rfl dX6_copyFrom_5 ?_
  refine w_callv F hP hS (c_X4_copyFrom l D Y ad N hI _ (b + 1) (b2 + 1) (by omega) (by omega) (by omega) f f2 hs.2.1 hso.2.1) (cwVm 1 F.2.2.2.2.1 (fun _ h => h) mw_140 mw_137 mw_138 mw_139 mw_38 rfl rfl ydX4_copyFrom ⟨by decide, by decide⟩) (by omega) hs.2.1.1 rfl rfl hl.1 rfl (Nat.le_of_ble_eq_true rfl) dX6_copyFrom_8 ⟨Nat.zero_le _, Nat.zero_le _⟩ (fun K1 H locs hq1 hP hS => ?_)
  have ob1 : K1 b = stO ad b (f 14) (f 19) := (hq1.2 _ (by omega)).trans hs.1
  have se1 : isSett Y ad K1 (b + 1) f2 := hq1.1
  have st1 : isStair Y ad K1 (b + 3) f := isStair_same hs.2.2.1 (fun j a z => hq1.2 j (by omega))
  have hp1 : K1 (b + 10) = hpR f g := (hq1.2 _ (by omega)).trans hs.2.2.2.1
  have lg1 : isLog Y ad K1 (b + 11) f := isLog_same hs.2.2.2.2.1 (fun j a z => hq1.2 j (by omega))
  have en1 : isEnd Y K1 (b + 17) f := isEnd_same hs.2.2.2.2.2 (hq1.2 _ (by omega))
  have oob1 : K1 b2 = stO ad b2 (f2 14) (f2 19) := (hq1.2 _ (by omega)).trans hso.1
  have ose1 : isSett Y ad K1 (b2 + 1) f2 := isSett_same hso.2.1 (fun j a z => hq1.2 j (by omega))
  have ost1 : isStair Y ad K1 (b2 + 3) f2 := isStair_same hso.2.2.1 (fun j a z => hq1.2 j (by omega))
  have ohp1 : K1 (b2 + 10) = hpR f2 g2 := (hq1.2 _ (by omega)).trans hso.2.2.2.1
  have olg1 : isLog Y ad K1 (b2 + 11) f2 := isLog_same hso.2.2.2.2.1 (fun j a z => hq1.2 j (by omega))
  have oen1 : isEnd Y K1 (b2 + 17) f2 := isEnd_same hso.2.2.2.2.2 (hq1.2 _ (by omega))
  have fr1 : ∀ j, j < b ∨ b + 18 ≤ j → K1 j = C j := fun j hj => (hq1.2 j (by omega)).trans ((fun _ _ => rfl) j hj)
  refine lv_aload_n F.1 F.2.1 dX6_copyFrom_11 rfl (lv_at hl 0 rfl) ?_
  refine gf_X6_21 F hP (by omega) ob1 (v := .ref (ad (b + 3))) rfl dX6_copyFrom_12 ?_
  refine lv_aload_n F.1 F.2.1 dX6_copyFrom_15 rfl (lv_at hl 1 rfl) ?_
  refine gf_X6_21 F hP (by omega) oob1 (v := .ref (ad (b2 + 3))) rfl dX6_copyFrom_16 ?_
  refine w_callv F hP hS (c_X5_copyFrom l D Y ad N hI _ (b + 3) (b2 + 3) (by omega) (by omega) (by omega) f f2 st1 ost1) (cwVm 1 F.2.2.2.2.1 (fun _ h => h) mw_145 mw_142 mw_143 mw_144 mw_42 rfl rfl ydX5_copyFrom ⟨by decide, by decide⟩) (by omega) st1.1 rfl rfl hl.1 rfl (Nat.le_of_ble_eq_true rfl) dX6_copyFrom_19 ⟨Nat.zero_le _, Nat.zero_le _⟩ (fun K2 H locs hq2 hP hS => ?_)
  have ob2 : K2 b = stO ad b (f 14) (f 19) := (hq2.2 _ (by omega)).trans ob1
  have se2 : isSett Y ad K2 (b + 1) f2 := isSett_same se1 (fun j a z => hq2.2 j (by omega))
  have st2 : isStair Y ad K2 (b + 3) f2 := hq2.1
  have hp2 : K2 (b + 10) = hpR f g := (hq2.2 _ (by omega)).trans hp1
  have lg2 : isLog Y ad K2 (b + 11) f := isLog_same lg1 (fun j a z => hq2.2 j (by omega))
  have en2 : isEnd Y K2 (b + 17) f := isEnd_same en1 (hq2.2 _ (by omega))
  have oob2 : K2 b2 = stO ad b2 (f2 14) (f2 19) := (hq2.2 _ (by omega)).trans oob1
  have ose2 : isSett Y ad K2 (b2 + 1) f2 := isSett_same ose1 (fun j a z => hq2.2 j (by omega))
  have ost2 : isStair Y ad K2 (b2 + 3) f2 := isStair_same ost1 (fun j a z => hq2.2 j (by omega))
  have ohp2 : K2 (b2 + 10) = hpR f2 g2 := (hq2.2 _ (by omega)).trans ohp1
  have olg2 : isLog Y ad K2 (b2 + 11) f2 := isLog_same olg1 (fun j a z => hq2.2 j (by omega))
  have oen2 : isEnd Y K2 (b2 + 17) f2 := isEnd_same oen1 (hq2.2 _ (by omega))
  have fr2 : ∀ j, j < b ∨ b + 18 ≤ j → K2 j = C j := fun j hj => (hq2.2 j (by omega)).trans (fr1 j hj)
  refine lv_aload_n F.1 F.2.1 dX6_copyFrom_22 rfl (lv_at hl 0 rfl) ?_
  refine gf_X6_28 F hP (by omega) ob2 (v := .ref (ad (b + 10))) rfl dX6_copyFrom_23 ?_
  refine lv_aload_n F.1 F.2.1 dX6_copyFrom_26 rfl (lv_at hl 1 rfl) ?_
  refine gf_X6_28 F hP (by omega) oob2 (v := .ref (ad (b2 + 10))) rfl dX6_copyFrom_27 ?_
  refine w_callv F hP hS (c_X1_copyFrom l D Y ad N hI _ (b + 10) (by omega) (f 5) (f 6) (f 7) (f 8) (f 9) (f 10) (f 11) (f 12) (f 13) g hp2 (b2 + 10) (by omega) (by omega) (f2 5) (f2 6) (f2 7) (f2 8) (f2 9) (f2 10) (f2 11) (f2 12) (f2 13) g2 ohp2 hz) (cwVm 1 F.2.2.2.2.1 (fun _ h => h) mw_150 mw_147 mw_148 mw_149 mw_30 rfl rfl ydX1_copyFrom ⟨by decide, by decide⟩) (by omega) hp2 rfl rfl hl.1 rfl (Nat.le_of_ble_eq_true rfl) dX6_copyFrom_30 ⟨Nat.zero_le _, Nat.zero_le _⟩ (fun K3 H locs hq3 hP hS => ?_)
  have sf3 : ∀ j, j ≠ b + 10 → K3 j = K2 j := fun j hj => by rw [hq3, va_up_ne _ _ hj]
  have ob3 : K3 b = stO ad b (f 14) (f 19) := (sf3 _ (by omega)).trans ob2
  have se3 : isSett Y ad K3 (b + 1) f2 := isSett_same se2 (fun j a z => sf3 j (by omega))
  have st3 : isStair Y ad K3 (b + 3) f2 := isStair_same st2 (fun j a z => sf3 j (by omega))
  have hp3 : K3 (b + 10) = hpR f2 g2 := by rw [hq3]; exact va_up_self _ _ _
  have lg3 : isLog Y ad K3 (b + 11) f := isLog_same lg2 (fun j a z => sf3 j (by omega))
  have en3 : isEnd Y K3 (b + 17) f := isEnd_same en2 (sf3 _ (by omega))
  have oob3 : K3 b2 = stO ad b2 (f2 14) (f2 19) := (sf3 _ (by omega)).trans oob2
  have ose3 : isSett Y ad K3 (b2 + 1) f2 := isSett_same ose2 (fun j a z => sf3 j (by omega))
  have ost3 : isStair Y ad K3 (b2 + 3) f2 := isStair_same ost2 (fun j a z => sf3 j (by omega))
  have ohp3 : K3 (b2 + 10) = hpR f2 g2 := (sf3 _ (by omega)).trans ohp2
  have olg3 : isLog Y ad K3 (b2 + 11) f2 := isLog_same olg2 (fun j a z => sf3 j (by omega))
  have oen3 : isEnd Y K3 (b2 + 17) f2 := isEnd_same oen2 (sf3 _ (by omega))
  have fr3 : ∀ j, j < b ∨ b + 18 ≤ j → K3 j = C j := fun j hj => (sf3 j (by omega)).trans (fr2 j hj)
  refine lv_aload_n F.1 F.2.1 dX6_copyFrom_33 rfl (lv_at hl 0 rfl) ?_
  refine gf_X6_35 F hP (by omega) ob3 (v := .ref (ad (b + 11))) rfl dX6_copyFrom_34 ?_
  refine lv_aload_n F.1 F.2.1 dX6_copyFrom_37 rfl (lv_at hl 1 rfl) ?_
  refine gf_X6_35 F hP (by omega) oob3 (v := .ref (ad (b2 + 11))) rfl dX6_copyFrom_38 ?_
  refine w_callv F hP hS (c_X3_copyFrom l D Y ad N hI _ (b + 11) (b2 + 11) (by omega) (by omega) (by omega) f f2 lg3 olg3) (cwVm 1 F.2.2.2.2.1 (fun _ h => h) mw_163 mw_160 mw_161 mw_162 mw_48 rfl rfl ydX3_copyFrom ⟨by decide, by decide⟩) (by omega) lg3.1 rfl rfl hl.1 rfl (Nat.le_of_ble_eq_true rfl) dX6_copyFrom_41 ⟨Nat.zero_le _, Nat.zero_le _⟩ (fun K4 H locs hq4 hP hS => ?_)
  have ob4 : K4 b = stO ad b (f 14) (f 19) := (hq4.2 _ (by omega)).trans ob3
  have se4 : isSett Y ad K4 (b + 1) f2 := isSett_same se3 (fun j a z => hq4.2 j (by omega))
  have st4 : isStair Y ad K4 (b + 3) f2 := isStair_same st3 (fun j a z => hq4.2 j (by omega))
  have hp4 : K4 (b + 10) = hpR f2 g2 := (hq4.2 _ (by omega)).trans hp3
  have lg4 : isLog Y ad K4 (b + 11) f2 := hq4.1
  have en4 : isEnd Y K4 (b + 17) f := isEnd_same en3 (hq4.2 _ (by omega))
  have oob4 : K4 b2 = stO ad b2 (f2 14) (f2 19) := (hq4.2 _ (by omega)).trans oob3
  have ose4 : isSett Y ad K4 (b2 + 1) f2 := isSett_same ose3 (fun j a z => hq4.2 j (by omega))
  have ost4 : isStair Y ad K4 (b2 + 3) f2 := isStair_same ost3 (fun j a z => hq4.2 j (by omega))
  have ohp4 : K4 (b2 + 10) = hpR f2 g2 := (hq4.2 _ (by omega)).trans ohp3
  have olg4 : isLog Y ad K4 (b2 + 11) f2 := isLog_same olg3 (fun j a z => hq4.2 j (by omega))
  have oen4 : isEnd Y K4 (b2 + 17) f2 := isEnd_same oen3 (hq4.2 _ (by omega))
  have fr4 : ∀ j, j < b ∨ b + 18 ≤ j → K4 j = C j := fun j hj => (hq4.2 j (by omega)).trans (fr3 j hj)
  refine lv_aload_n F.1 F.2.1 dX6_copyFrom_44 rfl (lv_at hl 1 rfl) ?_
  refine gf_X6_39 F hP (by omega) oob4 (v := .ref (ad (b2 + 17))) rfl dX6_copyFrom_45 ?_
  refine lv_iconst (v := 0) F.1 F.2.1 dX6_copyFrom_48 (by decide) ?_
  refine lv_aload_n F.1 F.2.1 dX6_copyFrom_49 rfl (lv_at hl 0 rfl) ?_
  refine gf_X6_39 F hP (by omega) ob4 (v := .ref (ad (b + 17))) rfl dX6_copyFrom_50 ?_
  refine lv_iconst (v := 0) F.1 F.2.1 dX6_copyFrom_53 (by decide) ?_
  refine lv_iconst (v := 5) F.1 F.2.1 dX6_copyFrom_54 (by decide) ?_
  obtain ⟨qe, he0, heq⟩ := id en4
  obtain ⟨qo, ho0, hoq⟩ := id oen4
  obtain ⟨K5, eK5⟩ : ∃ z, z = va_up K4 (b + 17) (.inl (Y 0, 5, .inl (va_cpy qo qe 0 0 5))) := ⟨_, rfl⟩
  refine w_acpy F hI hl.1 hP hS mw_133 (h0 := b2 + 17) (h1 := b + 17) (by omega) (by omega) ho0 he0 (a := 0) (b := 0) (k := 5) rfl rfl rfl (by decide) (by decide) (by decide) (by decide) (by decide) (Nat.le_of_ble_eq_true rfl) (fun j => (congrFun eK5 j).symm) dX6_copyFrom_55 (fun H locs hP hS => ?_)
  have sf5 : ∀ j, j ≠ b + 17 → K5 j = K4 j := fun j hj => by rw [eK5, va_up_ne _ _ hj]
  have ob5 : K5 b = stO ad b (f 14) (f 19) := (sf5 _ (by omega)).trans ob4
  have se5 : isSett Y ad K5 (b + 1) f2 := isSett_same se4 (fun j a z => sf5 j (by omega))
  have st5 : isStair Y ad K5 (b + 3) f2 := isStair_same st4 (fun j a z => sf5 j (by omega))
  have hp5 : K5 (b + 10) = hpR f2 g2 := (sf5 _ (by omega)).trans hp4
  have lg5 : isLog Y ad K5 (b + 11) f2 := isLog_same lg4 (fun j a z => sf5 j (by omega))
  have en5 : isEnd Y K5 (b + 17) f2 := ⟨_, by rw [eK5]; exact va_up_self _ _ _, fun i h1 h2 => by rw [pk_cpy_in (by omega) (by omega), show 0 + (i - 0) = i by omega]; exact hoq i h1 h2⟩
  have oob5 : K5 b2 = stO ad b2 (f2 14) (f2 19) := (sf5 _ (by omega)).trans oob4
  have ose5 : isSett Y ad K5 (b2 + 1) f2 := isSett_same ose4 (fun j a z => sf5 j (by omega))
  have ost5 : isStair Y ad K5 (b2 + 3) f2 := isStair_same ost4 (fun j a z => sf5 j (by omega))
  have ohp5 : K5 (b2 + 10) = hpR f2 g2 := (sf5 _ (by omega)).trans ohp4
  have olg5 : isLog Y ad K5 (b2 + 11) f2 := isLog_same olg4 (fun j a z => sf5 j (by omega))
  have oen5 : isEnd Y K5 (b2 + 17) f2 := isEnd_same oen4 (sf5 _ (by omega))
  have fr5 : ∀ j, j < b ∨ b + 18 ≤ j → K5 j = C j := fun j hj => (sf5 j (by omega)).trans (fr4 j hj)
  refine lv_aload_n F.1 F.2.1 dX6_copyFrom_58 rfl (lv_at hl 0 rfl) ?_
  refine lv_aload_n F.1 F.2.1 dX6_copyFrom_59 rfl (lv_at hl 1 rfl) ?_
  refine gf_X6_43 F hP (by omega) oob5 (v := .int (f2 14)) rfl dX6_copyFrom_60 ?_
  obtain ⟨K6, eK6⟩ : ∃ z, z = va_up K5 b (stO ad b (f2 14) (f 19)) := ⟨_, rfl⟩
  refine pf_X6_43 F hI hP hS (by omega) ob5 (Nat.le_of_ble_eq_true rfl) (C1 := K6) (fun j => (congrFun eK6 j).symm) dX6_copyFrom_63 (fun H locs hP hS => ?_)
  have sf6 : ∀ j, j ≠ b → K6 j = K5 j := fun j hj => by rw [eK6, va_up_ne _ _ hj]
  have ob6 : K6 b = stO ad b (f2 14) (f 19) := by rw [eK6]; exact va_up_self _ _ _
  have se6 : isSett Y ad K6 (b + 1) f2 := isSett_same se5 (fun j a z => sf6 j (by omega))
  have st6 : isStair Y ad K6 (b + 3) f2 := isStair_same st5 (fun j a z => sf6 j (by omega))
  have hp6 : K6 (b + 10) = hpR f2 g2 := (sf6 _ (by omega)).trans hp5
  have lg6 : isLog Y ad K6 (b + 11) f2 := isLog_same lg5 (fun j a z => sf6 j (by omega))
  have en6 : isEnd Y K6 (b + 17) f2 := isEnd_same en5 (sf6 _ (by omega))
  have oob6 : K6 b2 = stO ad b2 (f2 14) (f2 19) := (sf6 _ (by omega)).trans oob5
  have ose6 : isSett Y ad K6 (b2 + 1) f2 := isSett_same ose5 (fun j a z => sf6 j (by omega))
  have ost6 : isStair Y ad K6 (b2 + 3) f2 := isStair_same ost5 (fun j a z => sf6 j (by omega))
  have ohp6 : K6 (b2 + 10) = hpR f2 g2 := (sf6 _ (by omega)).trans ohp5
  have olg6 : isLog Y ad K6 (b2 + 11) f2 := isLog_same olg5 (fun j a z => sf6 j (by omega))
  have oen6 : isEnd Y K6 (b2 + 17) f2 := isEnd_same oen5 (sf6 _ (by omega))
  have fr6 : ∀ j, j < b ∨ b + 18 ≤ j → K6 j = C j := fun j hj => (sf6 j (by omega)).trans (fr5 j hj)
  refine lv_aload_n F.1 F.2.1 dX6_copyFrom_66 rfl (lv_at hl 0 rfl) ?_
  refine lv_aload_n F.1 F.2.1 dX6_copyFrom_67 rfl (lv_at hl 1 rfl) ?_
  refine gf_X6_47 F hP (by omega) oob6 (v := .int (f2 19)) rfl dX6_copyFrom_68 ?_
  obtain ⟨K7, eK7⟩ : ∃ z, z = va_up K6 b (stO ad b (f2 14) (f2 19)) := ⟨_, rfl⟩
  refine pf_X6_47 F hI hP hS (by omega) ob6 (Nat.le_of_ble_eq_true rfl) (C1 := K7) (fun j => (congrFun eK7 j).symm) dX6_copyFrom_71 (fun H locs hP hS => ?_)
  have sf7 : ∀ j, j ≠ b → K7 j = K6 j := fun j hj => by rw [eK7, va_up_ne _ _ hj]
  have ob7 : K7 b = stO ad b (f2 14) (f2 19) := by rw [eK7]; exact va_up_self _ _ _
  have se7 : isSett Y ad K7 (b + 1) f2 := isSett_same se6 (fun j a z => sf7 j (by omega))
  have st7 : isStair Y ad K7 (b + 3) f2 := isStair_same st6 (fun j a z => sf7 j (by omega))
  have hp7 : K7 (b + 10) = hpR f2 g2 := (sf7 _ (by omega)).trans hp6
  have lg7 : isLog Y ad K7 (b + 11) f2 := isLog_same lg6 (fun j a z => sf7 j (by omega))
  have en7 : isEnd Y K7 (b + 17) f2 := isEnd_same en6 (sf7 _ (by omega))
  have oob7 : K7 b2 = stO ad b2 (f2 14) (f2 19) := (sf7 _ (by omega)).trans oob6
  have ose7 : isSett Y ad K7 (b2 + 1) f2 := isSett_same ose6 (fun j a z => sf7 j (by omega))
  have ost7 : isStair Y ad K7 (b2 + 3) f2 := isStair_same ost6 (fun j a z => sf7 j (by omega))
  have ohp7 : K7 (b2 + 10) = hpR f2 g2 := (sf7 _ (by omega)).trans ohp6
  have olg7 : isLog Y ad K7 (b2 + 11) f2 := isLog_same olg6 (fun j a z => sf7 j (by omega))
  have oen7 : isEnd Y K7 (b2 + 17) f2 := isEnd_same oen6 (sf7 _ (by omega))
  have fr7 : ∀ j, j < b ∨ b + 18 ≤ j → K7 j = C j := fun j hj => (sf7 j (by omega)).trans (fr6 j hj)
  exact w_vret F hr hlocks hP hS dX6_copyFrom_74 ⟨(isState_mk (F := f2) ob7 rfl rfl se7 (fun q hq => rfl) st7 rfl (fun q hq _ => rfl) hp7 (fun q hq _ => rfl) lg7 (fun q hq _ => rfl) en7 (fun q hq _ => rfl)), fr7⟩

