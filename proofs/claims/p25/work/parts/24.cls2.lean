/-! HoopStairs: settings, reads, undo, slots -/
theorem st_set {Y : Nat → ClassId} {ad : Nat → Nat} {C C' : Nat → va_E} {b : Nat} {f : Nat → Int32} {g v : Int32} {k : Nat} (hk : k < 4) (h : isState Y ad C b f g) (hs : isSett Y ad C' (b + 1) (upd f k v)) (hq : ∀ j, j < b + 1 ∨ b + 1 + 2 ≤ j → C' j = C j) : isState Y ad C' b (upd f k v) g := by
  obtain ⟨h1, h2, h3, h4, h5, h6⟩ := h
  exact isState_mk (f1 := upd f k v) (f2 := f) (f3 := f) (f4 := f) (f5 := f) ((hq _ (by omega)).trans h1) (upd_n (by omega)) (upd_n (by omega)) hs (fun _ _ => rfl) (isStair_same h3 (fun j a c => hq j (by omega))) (upd_n (by omega)) (fun q a c => upd_n (by omega)) ((hq _ (by omega)).trans h4) (fun q a c => upd_n (by omega)) (isLog_same h5 (fun j a c => hq j (by omega))) (fun q a c => upd_n (by omega)) (isEnd_same h6 (hq _ (by omega))) (fun q a c => upd_n (by omega))
theorem cx_X5_entry (l : Launch) (D : va_G) (Y : Nat → ClassId) (ad : Nat → Nat) (N : Nat) (hI : wI ad N) (C : Nat → va_E) (st : Nat) (hh : st + 6 < N) (f : Nat → Int32) (hs : isStair Y ad C st f) (x y : Int32) (k j : Nat) (hk : k < 20) (hkn : nI k < f 4) (hj : j < 5) (ex : x = nI k) (ey : y = nI j) : Met l yX5_entry (wm yX5_entry cX5_entry 3 (some .int)) { frames := 1, cells := 0, slots := 0, locals := 21 } (wPc D Y ad N [.ref (ad st), .int x, .int y] C) (wQi D ad N (fun r C' => C' = C ∧ r = f (61 + 5 * k + j))) 0 0 (wA ad N) := by
  subst ex ey
  exact c_X5_entry l D Y ad N hI C st hh f hs k j hk hkn hj
theorem cx_X3_entry (l : Launch) (D : va_G) (Y : Nat → ClassId) (ad : Nat → Nat) (N : Nat) (hI : wI ad N) (C : Nat → va_E) (st : Nat) (hh : st + 5 < N) (f : Nat → Int32) (hs : isLog Y ad C st f) (x y : Int32) (k j : Nat) (hk : k < 10) (hkn : nI k < f 20) (hj : j < 4) (ex : x = nI k) (ey : y = nI j) : Met l yX3_entry (wm yX3_entry cX3_entry 3 (some .int)) { frames := 1, cells := 0, slots := 0, locals := 21 } (wPc D Y ad N [.ref (ad st), .int x, .int y] C) (wQi D ad N (fun r C' => C' = C ∧ r = f (21 + 4 * k + j))) 0 0 (wA ad N) := by
  subst ex ey
  exact c_X3_entry l D Y ad N hI C st hh f hs k j hk hkn hj
theorem cx_X4_value (l : Launch) (D : va_G) (Y : Nat → ClassId) (ad : Nat → Nat) (N : Nat) (hI : wI ad N) (C : Nat → va_E) (se : Nat) (hh : se + 1 < N) (f : Nat → Int32) (hs : isSett Y ad C se f) (x : Int32) (k : Nat) (hk : k < 4) (ex : x = nI k) : Met l yX4_value (wm yX4_value cX4_value 2 (some .int)) { frames := 0, cells := 0, slots := 0, locals := 0 } (wPc D Y ad N [.ref (ad se), .int x] C) (wQi D ad N (fun r C' => C' = C ∧ r = f k)) 0 0 (wA ad N) := by
  subst ex
  exact c_X4_value l D Y ad N hI C se hh f hs k hk
theorem cx_X4_change (l : Launch) (D : va_G) (Y : Nat → ClassId) (ad : Nat → Nat) (N : Nat) (hI : wI ad N) (C : Nat → va_E) (st : Nat) (hh : st + 1 < N) (f : Nat → Int32) (hs : isSett Y ad C st f) (x : Int32) (k : Nat) (v : Int32) (hk : k < 4) (hc : T_can x v) (ex : x = nI k) : Met l yX4_change (wm yX4_change cX4_change 4 (some .int)) { frames := 1, cells := 0, slots := 0, locals := 22 } (wPc D Y ad N [.ref (ad st), .int x, .int v] C) (wQi D ad N (fun r C' => r = f k ∧ isSett Y ad C' st (upd f k v) ∧ ∀ j, j < st ∨ st + 2 ≤ j → C' j = C j)) 0 0 (wA ad N) := by
  subst ex
  exact c_X4_change l D Y ad N hI C st hh f hs k v hk hc
set_option maxRecDepth 20000 in
set_option maxHeartbeats 4000000 in
/-- set -/
theorem c_X7_set (l : Launch) (D : va_G) (Y : Nat → ClassId) (ad : Nat → Nat) (N : Nat) (hI : wI ad N) (C : Nat → va_E) (o : Nat) (hh : o + 170 ≤ N) (f : Nat → Int32) (hs : Nat → Nat → Int32) (kn : Nat) (sl : Nat → Nat → Int32) (sv : Nat → Int32) (pd : Nat → Int32) (n : Nat) (hA : clsA Y ad C o f hs kn sl sv pd n) (x v : Int32) (B : Int) (hok : okRow B f) (hBb : B + 2000 ≤ 900000000) : Met l yX7_set (wm yX7_set cX7_set 3 (some .int)) { frames := 4, cells := 0, slots := 0, locals := 88 } (wPc D Y ad N [.ref (ad o), .int (x), .int (v)] C) (wQi D ad N (fun r C' => ((if T_can x v then (0 : Int32) else -2) = 0 → r = f x.toNatClampNeg ∧ clsA Y ad C' o (upd f x.toNatClampNeg v) (H_rec f hs kn) (K_rec kn) sl sv pd n ∧ ∀ j, j < o ∨ o + 170 ≤ j → C' j = C j) ∧ (¬ (if T_can x v then (0 : Int32) else -2) = 0 → r = (if T_can x v then (0 : Int32) else -2) ∧ C' = C))) 0 0 (wA ad N) := by
  obtain ⟨FF, GG, nx, fl, hc, hnx, hkn, hn80, h0, hhi, h7, h8, hv0, hv1⟩ := id hA
  have hnow : isState Y ad C (o + 1) f (GG 0) := by have q := hc.2.2.2.2.2.2.2 0 (by decide); rw [h0] at q; exact q
  have hz := hok.2.1
  refine wMet RX7 rfl (by decide +kernel) (Nat.le_of_ble_eq_true rfl) (lv := [(0, .ref (ad o)), (1, .int (x)), (2, .int (v))]) rfl ?_
  intro p e s m below meth c ls F hr hlocks hP hl
  have hS : va_S (wA ad N) s.heap s.heap [] := va_S.rf
  refine lv_aload_n F.1 F.2.1 dX7_set_0 rfl (lv_at hl 0 rfl) ?_
  refine gf_X7_10 F hP (by omega) hc.1 (v := .ref (ad (o + 1))) rfl dX7_set_1 ?_
  refine gf_X7_45 F hP (by omega) hnow.1 (v := .ref (ad ((o + 1) + 1))) rfl dX7_set_4 ?_
  refine lv_iload_n F.1 F.2.1 dX7_set_7 rfl (lv_at hl 1 rfl) ?_
  refine lv_iload_n F.1 F.2.1 dX7_set_8 rfl (lv_at hl 2 rfl) ?_
  refine w_calli F hP hS (c_X4_allows l D Y ad N hI _ (o + 1 + 1) (by omega) _ hnow.2.1.1 x v) (cwVm 2 F.2.2.2.2.1 (fun _ h => h) mw_118 mw_115 mw_116 mw_117 mw_38 rfl rfl ydX4_allows ⟨by decide, by decide⟩) (by omega) hnow.2.1.1 rfl rfl hl.1 rfl (Nat.le_of_ble_eq_true rfl) dX7_set_9 ⟨Nat.zero_le _, Nat.zero_le _⟩ (fun r C2 H locs hq hP hS => ?_)
  obtain ⟨hq1, hbrr1⟩ := hq; rw [hq1] at hP; generalize r = rr1 at hbrr1 ⊢
  refine lv_if_ne (tgt := 18) F.1 F.2.1 dX7_set_12 (by decide) (fun c2 => ?_) (fun c2 => ?_)
  · refine lv_aload_n F.1 F.2.1 dX7_set_18 rfl (lv_at hl 0 rfl) ?_
    refine gf_X7_19 F hP (by omega) hc.1 (v := .ref (ad (o + 19))) rfl dX7_set_19 ?_
    refine lv_aload_n F.1 F.2.1 dX7_set_22 rfl (lv_at hl 0 rfl) ?_
    refine gf_X7_10 F hP (by omega) hc.1 (v := .ref (ad (o + 1))) rfl dX7_set_23 ?_
    have hbe := bs_ring hnx
    have htg : isState Y ad C (o + 19 + 2 + 18 * nx) (FF (nx + 1)) (GG (nx + 1)) := by have q := hc.2.2.2.2.2.2.2 (nx + 1) (by omega); rw [hbe, show o + (21 + 18 * nx) = o + 19 + 2 + 18 * nx by omega] at q; exact q
    refine w_callv F hP hS (c_X0_record l D Y ad N hI _ (o + 19) (o + 1) (by omega) (by omega) (by omega) nx kn hnx hkn hc.2.1 f (FF (nx + 1)) (GG 0) (GG (nx + 1)) hnow htg hz) (cwVm 1 F.2.2.2.2.1 (fun _ h => h) mw_124 mw_121 mw_122 mw_123 mw_19 rfl rfl ydX0_record ⟨by decide, by decide⟩) (by omega) hc.2.1.1 rfl rfl hl.1 rfl (Nat.le_of_ble_eq_true rfl) dX7_set_26 ⟨Nat.zero_le _, Nat.zero_le _⟩ (fun K1 H locs hq1 hP hS => ?_)
    obtain ⟨hq1a, hq1b, hq1c⟩ := hq1
    have hc1 := cls_rec hnx hc hq1a hq1b hq1c
    have hnow1 : isState Y ad K1 (o + 1) f (GG 0) := isState_same hnow (fun j a z => hq1c j (by omega) (by omega))
    have fr1 : ∀ j, j < o ∨ o + 170 ≤ j → K1 j = C j := fun j hj => (hq1c j (by omega) (by omega)).trans ((fun _ _ => rfl) j hj)
    refine lv_aload_n F.1 F.2.1 dX7_set_29 rfl (lv_at hl 0 rfl) ?_
    refine gf_X7_10 F hP (by omega) hc1.1 (v := .ref (ad (o + 1))) rfl dX7_set_30 ?_
    refine gf_X7_45 F hP (by omega) hnow1.1 (v := .ref (ad ((o + 1) + 1))) rfl dX7_set_33 ?_
    refine lv_iload_n F.1 F.2.1 dX7_set_36 rfl (lv_at hl 1 rfl) ?_
    refine lv_iload_n F.1 F.2.1 dX7_set_37 rfl (lv_at hl 2 rfl) ?_
    have hcan := b_t hbrr1 c2
    obtain ⟨k, hk, ek⟩ := can_in hcan
    have ecl : x.toNatClampNeg = k := by rw [ek]; exact nI_clamp (by omega)
    refine w_calli F hP hS (cx_X4_change l D Y ad N hI _ (o + 1 + 1) (by omega) f hnow1.2.1 x k v hk hcan ek) (cwVm 2 F.2.2.2.2.1 (fun _ h => h) mw_168 mw_165 mw_166 mw_167 mw_38 rfl rfl ydX4_change ⟨by decide, by decide⟩) (by omega) hnow1.2.1.1 rfl rfl hl.1 rfl (Nat.le_of_ble_eq_true rfl) dX7_set_38 ⟨Nat.zero_le _, Nat.zero_le _⟩ (fun r2 K2 H locs hq2 hP hS => ?_)
    obtain ⟨hq2r, hq2a, hq2c⟩ := hq2
    have hs2 := st_set hk hnow1 hq2a hq2c
    have hc2 := cls_st 0 (by decide) hc1 hs2 (fun j hj => hq2c j (by have := bs_in (show 0 < 9 by decide); have e : bs 0 = 1 := rfl; omega))
    have fr2 : ∀ j, j < o ∨ o + 170 ≤ j → K2 j = C j := fun j hj => (hq2c j (by omega)).trans (fr1 j hj)
    exact w_iret F hr hlocks hP hS dX7_set_41 ⟨fun _ => ⟨(by rw [ecl]; exact hq2r), (by rw [ecl]; exact (A_rec hnx hkn hn80 h0 hhi h7 h8 hv0 hv1 hc2)), fr2⟩, fun q => absurd (if_pos (b_t hbrr1 c2)) q⟩
  · refine lv_bipush (v := (-2)) F.1 F.2.1 dX7_set_15 (by decide) ?_
    exact w_iret F hr hlocks hP hS dX7_set_17 ⟨fun q => absurd q (by rw [if_neg (b_f hbrr1 c2)]; decide), fun _ => ⟨(if_neg (b_f hbrr1 c2)).symm, rfl⟩⟩
def T_of (f : Nat → Int32) (x y : Int32) : Int32 := if 0 ≤ x ∧ x < f 4 ∧ x < 20 then (if 0 ≤ y ∧ y < 5 then f (61 + 5 * x.toNatClampNeg + y.toNatClampNeg) else -2) else -1
def T_runs (f : Nat → Int32) (x y : Int32) : Int32 := if 0 ≤ x ∧ x < f 20 ∧ x < 10 then (if 0 ≤ y ∧ y < 4 then f (21 + 4 * x.toNatClampNeg + y.toNatClampNeg) else -2) else -1
def T_about (f : Nat → Int32) (x : Int32) : Int32 := if x = 0 then f 6 else if x = 1 then f 7 else if x = 2 then f 8 + 500 else if x = 3 then f 9 else if x = 4 then f 10 else if x = 5 then f 11 else if x = 6 then f 12 else f 13
def T_ofHoop (f : Nat → Int32) (x : Int32) : Int32 := if 0 ≤ x ∧ x ≤ 7 then (if f 5 = 0 then -6 else T_about f x) else -2
def T_count (f : Nat → Int32) (kn n : Nat) (x : Int32) : Int32 := if 0 ≤ x ∧ x ≤ 15 then (if x = 14 then nI n else if x = 15 then nI kn else if 10 ≤ x then f (x - 10).toNatClampNeg else T_num f x) else -2
theorem lt_x {x : Int32} {m : Nat} (hm : m < 2147483648) (h : 0 ≤ x) (h2 : x < nI m) : ∃ k : Nat, k < m ∧ x = nI k ∧ x.toNatClampNeg = k := by
  have a1 := Int32.le_iff_toInt_le.mp h
  have a2 := Int32.lt_iff_toInt_lt.mp h2
  have z : (0 : Int32).toInt = 0 := rfl
  have t : (nI m).toInt = m := nI_toInt (by omega)
  obtain ⟨e1, l1, i1⟩ := nI_rd (x := x) (M := m) (by omega) (by omega)
  exact ⟨_, by omega, e1, rfl⟩
set_option maxRecDepth 20000 in
set_option maxHeartbeats 4000000 in
/-- of -/
theorem c_X7_of (l : Launch) (D : va_G) (Y : Nat → ClassId) (ad : Nat → Nat) (N : Nat) (hI : wI ad N) (C : Nat → va_E) (o : Nat) (hh : o + 170 ≤ N) (f : Nat → Int32) (hs : Nat → Nat → Int32) (kn : Nat) (sl : Nat → Nat → Int32) (sv : Nat → Int32) (pd : Nat → Int32) (n : Nat) (hA : clsA Y ad C o f hs kn sl sv pd n) (x y : Int32) : Met l yX7_of (wm yX7_of cX7_of 3 (some .int)) { frames := 2, cells := 0, slots := 0, locals := 43 } (wPc D Y ad N [.ref (ad o), .int (x), .int (y)] C) (wQi D ad N (fun r C' => C' = C ∧ r = T_of f x y)) 0 0 (wA ad N) := by
  obtain ⟨FF, GG, nx, fl, hc, hnx, hkn, hn80, h0, hhi, h7, h8, hv0, hv1⟩ := id hA
  have hnow : isState Y ad C (o + 1) f (GG 0) := by have q := hc.2.2.2.2.2.2.2 0 (by decide); rw [h0] at q; exact q
  refine wMet RX7 rfl (by decide +kernel) (Nat.le_of_ble_eq_true rfl) (lv := [(0, .ref (ad o)), (1, .int (x)), (2, .int (y))]) rfl ?_
  intro p e s m below meth c ls F hr hlocks hP hl
  have hS : va_S (wA ad N) s.heap s.heap [] := va_S.rf
  refine lv_aload_n F.1 F.2.1 dX7_of_0 rfl (lv_at hl 0 rfl) ?_
  refine gf_X7_10 F hP (by omega) hc.1 (v := .ref (ad (o + 1))) rfl dX7_of_1 ?_
  refine gf_X7_70 F hP (by omega) hnow.1 (v := .ref (ad ((o + 1) + 3))) rfl dX7_of_4 ?_
  refine lv_iload_n F.1 F.2.1 dX7_of_7 rfl (lv_at hl 1 rfl) ?_
  refine w_calli F hP hS (c_X5_has l D Y ad N hI _ (o + 1 + 3) (by omega) _ _ hnow.2.2.1.1 x) (cwVm 1 F.2.2.2.2.1 (fun _ h => h) mw_234 mw_231 mw_232 mw_233 mw_42 rfl rfl ydX5_has ⟨by decide, by decide⟩) (by omega) hnow.2.2.1.1 rfl rfl hl.1 rfl (Nat.le_of_ble_eq_true rfl) dX7_of_8 ⟨Nat.zero_le _, Nat.zero_le _⟩ (fun r C2 H locs hq hP hS => ?_)
  obtain ⟨hq1, hbrr1⟩ := hq; rw [hq1] at hP; generalize r = rr1 at hbrr1 ⊢
  refine lv_if_ne (tgt := 16) F.1 F.2.1 dX7_of_11 (by decide) (fun c2 => ?_) (fun c2 => ?_)
  · refine lv_iload_n F.1 F.2.1 dX7_of_16 rfl (lv_at hl 2 rfl) ?_
    refine lv_if_lt (tgt := 25) F.1 F.2.1 dX7_of_17 (by decide) (fun c3 => ?_) (fun c3 => ?_)
    · refine lv_bipush (v := (-2)) F.1 F.2.1 dX7_of_25 (by decide) ?_
      exact w_iret F hr hlocks hP hS dX7_of_27 ⟨rfl, by unfold T_of; rw [if_pos (b_t hbrr1 c2), if_neg (fun q => i_nle c3 q.1)]⟩
    · refine lv_iload_n F.1 F.2.1 dX7_of_20 rfl (lv_at hl 2 rfl) ?_
      refine lv_iconst (v := 5) F.1 F.2.1 dX7_of_21 (by decide) ?_
      refine lv_icmp_lt (tgt := 28) F.1 F.2.1 dX7_of_22 (by decide) (fun c4 => ?_) (fun c4 => ?_)
      · refine lv_aload_n F.1 F.2.1 dX7_of_28 rfl (lv_at hl 0 rfl) ?_
        refine gf_X7_10 F hP (by omega) hc.1 (v := .ref (ad (o + 1))) rfl dX7_of_29 ?_
        refine gf_X7_70 F hP (by omega) hnow.1 (v := .ref (ad ((o + 1) + 3))) rfl dX7_of_32 ?_
        refine lv_iload_n F.1 F.2.1 dX7_of_35 rfl (lv_at hl 1 rfl) ?_
        refine lv_iload_n F.1 F.2.1 dX7_of_36 rfl (lv_at hl 2 rfl) ?_
        have hb1 := b_t hbrr1 c2
        obtain ⟨kx, hkx, ex, ecx⟩ := lt_x (m := 20) (by decide) hb1.1 hb1.2.2
        obtain ⟨ky, hky, ey, ecy⟩ := lt_x (m := 5) (by decide) (i_le c3) c4
        refine w_calli F hP hS (cx_X5_entry l D Y ad N hI _ (o + 1 + 3) (by omega) f hnow.2.2.1 x y kx ky hkx (by rw [← ex]; exact hb1.2.1) hky ex ey) (cwVm 2 F.2.2.2.2.1 (fun _ h => h) mw_300 mw_446 mw_298 mw_299 mw_42 rfl rfl ydX5_entry ⟨by decide, by decide⟩) (by omega) hnow.2.2.1.1 rfl rfl hl.1 rfl (Nat.le_of_ble_eq_true rfl) dX7_of_37 ⟨Nat.zero_le _, Nat.zero_le _⟩ (fun r C2 H locs hq hP hS => ?_)
        obtain ⟨hq1, hq2⟩ := hq; rw [hq1] at hP; subst hq2
        exact w_iret F hr hlocks hP hS dX7_of_40 ⟨rfl, by unfold T_of; rw [if_pos hb1, if_pos ⟨i_le c3, c4⟩, ecx, ecy]⟩
      · refine lv_bipush (v := (-2)) F.1 F.2.1 dX7_of_25 (by decide) ?_
        exact w_iret F hr hlocks hP hS dX7_of_27 ⟨rfl, by unfold T_of; rw [if_pos (b_t hbrr1 c2), if_neg (fun q => c4 q.2)]⟩
  · refine lv_iconst (v := (-1)) F.1 F.2.1 dX7_of_14 (by decide) ?_
    exact w_iret F hr hlocks hP hS dX7_of_15 ⟨rfl, by unfold T_of; rw [if_neg (b_f hbrr1 c2)]⟩
set_option maxRecDepth 20000 in
set_option maxHeartbeats 4000000 in
/-- run -/
theorem c_X7_run (l : Launch) (D : va_G) (Y : Nat → ClassId) (ad : Nat → Nat) (N : Nat) (hI : wI ad N) (C : Nat → va_E) (o : Nat) (hh : o + 170 ≤ N) (f : Nat → Int32) (hs : Nat → Nat → Int32) (kn : Nat) (sl : Nat → Nat → Int32) (sv : Nat → Int32) (pd : Nat → Int32) (n : Nat) (hA : clsA Y ad C o f hs kn sl sv pd n) (x y : Int32) : Met l yX7_run (wm yX7_run cX7_run 3 (some .int)) { frames := 2, cells := 0, slots := 0, locals := 43 } (wPc D Y ad N [.ref (ad o), .int (x), .int (y)] C) (wQi D ad N (fun r C' => C' = C ∧ r = T_runs f x y)) 0 0 (wA ad N) := by
  obtain ⟨FF, GG, nx, fl, hc, hnx, hkn, hn80, h0, hhi, h7, h8, hv0, hv1⟩ := id hA
  have hnow : isState Y ad C (o + 1) f (GG 0) := by have q := hc.2.2.2.2.2.2.2 0 (by decide); rw [h0] at q; exact q
  refine wMet RX7 rfl (by decide +kernel) (Nat.le_of_ble_eq_true rfl) (lv := [(0, .ref (ad o)), (1, .int (x)), (2, .int (y))]) rfl ?_
  intro p e s m below meth c ls F hr hlocks hP hl
  have hS : va_S (wA ad N) s.heap s.heap [] := va_S.rf
  refine lv_aload_n F.1 F.2.1 dX7_run_0 rfl (lv_at hl 0 rfl) ?_
  refine gf_X7_10 F hP (by omega) hc.1 (v := .ref (ad (o + 1))) rfl dX7_run_1 ?_
  refine gf_X7_122 F hP (by omega) hnow.1 (v := .ref (ad ((o + 1) + 11))) rfl dX7_run_4 ?_
  refine lv_iload_n F.1 F.2.1 dX7_run_7 rfl (lv_at hl 1 rfl) ?_
  refine w_calli F hP hS (c_X3_has l D Y ad N hI _ (o + 1 + 11) (by omega) _ _ hnow.2.2.2.2.1.1 x) (cwVm 1 F.2.2.2.2.1 (fun _ h => h) mw_469 mw_466 mw_467 mw_468 mw_48 rfl rfl ydX3_has ⟨by decide, by decide⟩) (by omega) hnow.2.2.2.2.1.1 rfl rfl hl.1 rfl (Nat.le_of_ble_eq_true rfl) dX7_run_8 ⟨Nat.zero_le _, Nat.zero_le _⟩ (fun r C2 H locs hq hP hS => ?_)
  obtain ⟨hq1, hbrr1⟩ := hq; rw [hq1] at hP; generalize r = rr1 at hbrr1 ⊢
  refine lv_if_ne (tgt := 16) F.1 F.2.1 dX7_run_11 (by decide) (fun c2 => ?_) (fun c2 => ?_)
  · refine lv_iload_n F.1 F.2.1 dX7_run_16 rfl (lv_at hl 2 rfl) ?_
    refine lv_if_lt (tgt := 25) F.1 F.2.1 dX7_run_17 (by decide) (fun c3 => ?_) (fun c3 => ?_)
    · refine lv_bipush (v := (-2)) F.1 F.2.1 dX7_run_25 (by decide) ?_
      exact w_iret F hr hlocks hP hS dX7_run_27 ⟨rfl, by unfold T_runs; rw [if_pos (b_t hbrr1 c2), if_neg (fun q => i_nle c3 q.1)]⟩
    · refine lv_iload_n F.1 F.2.1 dX7_run_20 rfl (lv_at hl 2 rfl) ?_
      refine lv_iconst (v := 4) F.1 F.2.1 dX7_run_21 (by decide) ?_
      refine lv_icmp_lt (tgt := 28) F.1 F.2.1 dX7_run_22 (by decide) (fun c4 => ?_) (fun c4 => ?_)
      · refine lv_aload_n F.1 F.2.1 dX7_run_28 rfl (lv_at hl 0 rfl) ?_
        refine gf_X7_10 F hP (by omega) hc.1 (v := .ref (ad (o + 1))) rfl dX7_run_29 ?_
        refine gf_X7_122 F hP (by omega) hnow.1 (v := .ref (ad ((o + 1) + 11))) rfl dX7_run_32 ?_
        refine lv_iload_n F.1 F.2.1 dX7_run_35 rfl (lv_at hl 1 rfl) ?_
        refine lv_iload_n F.1 F.2.1 dX7_run_36 rfl (lv_at hl 2 rfl) ?_
        have hb1 := b_t hbrr1 c2
        obtain ⟨kx, hkx, ex, ecx⟩ := lt_x (m := 10) (by decide) hb1.1 hb1.2.2
        obtain ⟨ky, hky, ey, ecy⟩ := lt_x (m := 4) (by decide) (i_le c3) c4
        refine w_calli F hP hS (cx_X3_entry l D Y ad N hI _ (o + 1 + 11) (by omega) f hnow.2.2.2.2.1 x y kx ky hkx (by rw [← ex]; exact hb1.2.1) hky ex ey) (cwVm 2 F.2.2.2.2.1 (fun _ h => h) mw_473 mw_470 mw_471 mw_472 mw_48 rfl rfl ydX3_entry ⟨by decide, by decide⟩) (by omega) hnow.2.2.2.2.1.1 rfl rfl hl.1 rfl (Nat.le_of_ble_eq_true rfl) dX7_run_37 ⟨Nat.zero_le _, Nat.zero_le _⟩ (fun r C2 H locs hq hP hS => ?_)
        obtain ⟨hq1, hq2⟩ := hq; rw [hq1] at hP; subst hq2
        exact w_iret F hr hlocks hP hS dX7_run_40 ⟨rfl, by unfold T_runs; rw [if_pos hb1, if_pos ⟨i_le c3, c4⟩, ecx, ecy]⟩
      · refine lv_bipush (v := (-2)) F.1 F.2.1 dX7_run_25 (by decide) ?_
        exact w_iret F hr hlocks hP hS dX7_run_27 ⟨rfl, by unfold T_runs; rw [if_pos (b_t hbrr1 c2), if_neg (fun q => c4 q.2)]⟩
  · refine lv_iconst (v := (-1)) F.1 F.2.1 dX7_run_14 (by decide) ?_
    exact w_iret F hr hlocks hP hS dX7_run_15 ⟨rfl, by unfold T_runs; rw [if_neg (b_f hbrr1 c2)]⟩
set_option maxRecDepth 20000 in
set_option maxHeartbeats 4000000 in
/-- what is asked of a hoop -/
theorem c_X7_aboutHoop (l : Launch) (D : va_G) (Y : Nat → ClassId) (ad : Nat → Nat) (N : Nat) (hI : wI ad N) (C : Nat → va_E) (h : Nat) (hh : h < N) (f : Nat → Int32) (g : Int32) (hC : C h = hpR f g) (x : Int32) : Met l yX7_aboutHoop (wm yX7_aboutHoop cX7_aboutHoop 2 (some .int)) { frames := 0, cells := 0, slots := 0, locals := 0 } (wPc D Y ad N [.ref (ad h), .int (x)] C) (wQi D ad N (fun r C' => C' = C ∧ r = T_about f x)) 0 0 (wA ad N) := by
  refine wMet RX7 rfl (by decide +kernel) (Nat.le_of_ble_eq_true rfl) (lv := [(0, .ref (ad h)), (1, .int (x))]) rfl ?_
  intro p e s m below meth c ls F hr hlocks hP hl
  have hS : va_S (wA ad N) s.heap s.heap [] := va_S.rf
  refine lv_iload_n F.1 F.2.1 dX7_aboutHoop_0 rfl (lv_at hl 1 rfl) ?_
  by_cases k1 : x = 0
  · refine lv_tableIn (off := 43) (tgt := 44) F.1 F.2.1 dX7_aboutHoop_1 (by rw [k1]; decide) (by rw [k1]; decide) (by rw [k1]; rfl) (by decide) ?_
    refine lv_aload_n F.1 F.2.1 dX7_aboutHoop_44 rfl (lv_at hl 0 rfl) ?_
    refine gf_X7_141 F hP hh hC (v := .int (f 6)) rfl dX7_aboutHoop_45 ?_
    exact w_iret F hr hlocks hP hS dX7_aboutHoop_48 ⟨rfl, by simp only [T_about, if_pos k1]⟩
  · by_cases k2 : x = 1
    · refine lv_tableIn (off := 48) (tgt := 49) F.1 F.2.1 dX7_aboutHoop_1 (by rw [k2]; decide) (by rw [k2]; decide) (by rw [k2]; rfl) (by decide) ?_
      refine lv_aload_n F.1 F.2.1 dX7_aboutHoop_49 rfl (lv_at hl 0 rfl) ?_
      refine gf_X7_144 F hP hh hC (v := .int (f 7)) rfl dX7_aboutHoop_50 ?_
      exact w_iret F hr hlocks hP hS dX7_aboutHoop_53 ⟨rfl, by simp only [T_about, if_neg k1, if_pos k2]⟩
    · by_cases k3 : x = 2
      · refine lv_tableIn (off := 53) (tgt := 54) F.1 F.2.1 dX7_aboutHoop_1 (by rw [k3]; decide) (by rw [k3]; decide) (by rw [k3]; rfl) (by decide) ?_
        refine lv_aload_n F.1 F.2.1 dX7_aboutHoop_54 rfl (lv_at hl 0 rfl) ?_
        refine gf_X7_147 F hP hh hC (v := .int (f 8)) rfl dX7_aboutHoop_55 ?_
        refine lv_sipush (v := 500) F.1 F.2.1 dX7_aboutHoop_58 (by decide) ?_
        refine lv_iadd F.1 F.2.1 dX7_aboutHoop_61 ?_
        exact w_iret F hr hlocks hP hS dX7_aboutHoop_62 ⟨rfl, by simp only [T_about, if_neg k1, if_neg k2, if_pos k3]⟩
      · by_cases k4 : x = 3
        · refine lv_tableIn (off := 62) (tgt := 63) F.1 F.2.1 dX7_aboutHoop_1 (by rw [k4]; decide) (by rw [k4]; decide) (by rw [k4]; rfl) (by decide) ?_
          refine lv_aload_n F.1 F.2.1 dX7_aboutHoop_63 rfl (lv_at hl 0 rfl) ?_
          refine gf_X7_150 F hP hh hC (v := .int (f 9)) rfl dX7_aboutHoop_64 ?_
          exact w_iret F hr hlocks hP hS dX7_aboutHoop_67 ⟨rfl, by simp only [T_about, if_neg k1, if_neg k2, if_neg k3, if_pos k4]⟩
        · by_cases k5 : x = 4
          · refine lv_tableIn (off := 67) (tgt := 68) F.1 F.2.1 dX7_aboutHoop_1 (by rw [k5]; decide) (by rw [k5]; decide) (by rw [k5]; rfl) (by decide) ?_
            refine lv_aload_n F.1 F.2.1 dX7_aboutHoop_68 rfl (lv_at hl 0 rfl) ?_
            refine gf_X7_153 F hP hh hC (v := .int (f 10)) rfl dX7_aboutHoop_69 ?_
            exact w_iret F hr hlocks hP hS dX7_aboutHoop_72 ⟨rfl, by simp only [T_about, if_neg k1, if_neg k2, if_neg k3, if_neg k4, if_pos k5]⟩
          · by_cases k6 : x = 5
            · refine lv_tableIn (off := 72) (tgt := 73) F.1 F.2.1 dX7_aboutHoop_1 (by rw [k6]; decide) (by rw [k6]; decide) (by rw [k6]; rfl) (by decide) ?_
              refine lv_aload_n F.1 F.2.1 dX7_aboutHoop_73 rfl (lv_at hl 0 rfl) ?_
              refine gf_X7_156 F hP hh hC (v := .int (f 11)) rfl dX7_aboutHoop_74 ?_
              exact w_iret F hr hlocks hP hS dX7_aboutHoop_77 ⟨rfl, by simp only [T_about, if_neg k1, if_neg k2, if_neg k3, if_neg k4, if_neg k5, if_pos k6]⟩
            · by_cases k7 : x = 6
              · refine lv_tableIn (off := 77) (tgt := 78) F.1 F.2.1 dX7_aboutHoop_1 (by rw [k7]; decide) (by rw [k7]; decide) (by rw [k7]; rfl) (by decide) ?_
                refine lv_aload_n F.1 F.2.1 dX7_aboutHoop_78 rfl (lv_at hl 0 rfl) ?_
                refine gf_X7_159 F hP hh hC (v := .int (f 12)) rfl dX7_aboutHoop_79 ?_
                exact w_iret F hr hlocks hP hS dX7_aboutHoop_82 ⟨rfl, by simp only [T_about, if_neg k1, if_neg k2, if_neg k3, if_neg k4, if_neg k5, if_neg k6, if_pos k7]⟩
              · refine lv_tableOut (tgt := 83) F.1 F.2.1 dX7_aboutHoop_1 (by have := lv_neT k1 (a := 0) rfl; have := lv_neT k2 (a := 1) rfl; have := lv_neT k3 (a := 2) rfl; have := lv_neT k4 (a := 3) rfl; have := lv_neT k5 (a := 4) rfl; have := lv_neT k6 (a := 5) rfl; have := lv_neT k7 (a := 6) rfl; omega) (by decide) ?_
                refine lv_aload_n F.1 F.2.1 dX7_aboutHoop_83 rfl (lv_at hl 0 rfl) ?_
                refine gf_X7_162 F hP hh hC (v := .int (f 13)) rfl dX7_aboutHoop_84 ?_
                exact w_iret F hr hlocks hP hS dX7_aboutHoop_87 ⟨rfl, by simp only [T_about, if_neg k1, if_neg k2, if_neg k3, if_neg k4, if_neg k5, if_neg k6, if_neg k7]⟩
set_option maxRecDepth 20000 in
set_option maxHeartbeats 4000000 in
/-- ofHoop -/
theorem c_X7_ofHoop (l : Launch) (D : va_G) (Y : Nat → ClassId) (ad : Nat → Nat) (N : Nat) (hI : wI ad N) (C : Nat → va_E) (o : Nat) (hh : o + 170 ≤ N) (f : Nat → Int32) (hs : Nat → Nat → Int32) (kn : Nat) (sl : Nat → Nat → Int32) (sv : Nat → Int32) (pd : Nat → Int32) (n : Nat) (hA : clsA Y ad C o f hs kn sl sv pd n) (x : Int32) : Met l yX7_ofHoop (wm yX7_ofHoop cX7_ofHoop 2 (some .int)) { frames := 1, cells := 0, slots := 0, locals := 21 } (wPc D Y ad N [.ref (ad o), .int (x)] C) (wQi D ad N (fun r C' => C' = C ∧ r = T_ofHoop f x)) 0 0 (wA ad N) := by
  obtain ⟨FF, GG, nx, fl, hc, hnx, hkn, hn80, h0, hhi, h7, h8, hv0, hv1⟩ := id hA
  have hnow : isState Y ad C (o + 1) f (GG 0) := by have q := hc.2.2.2.2.2.2.2 0 (by decide); rw [h0] at q; exact q
  refine wMet RX7 rfl (by decide +kernel) (Nat.le_of_ble_eq_true rfl) (lv := [(0, .ref (ad o)), (1, .int (x))]) rfl ?_
  intro p e s m below meth c ls F hr hlocks hP hl
  have hS : va_S (wA ad N) s.heap s.heap [] := va_S.rf
  refine lv_iload_n F.1 F.2.1 dX7_ofHoop_0 rfl (lv_at hl 1 rfl) ?_
  refine lv_if_lt (tgt := 10) F.1 F.2.1 dX7_ofHoop_1 (by decide) (fun c1 => ?_) (fun c1 => ?_)
  · refine lv_bipush (v := (-2)) F.1 F.2.1 dX7_ofHoop_10 (by decide) ?_
    exact w_iret F hr hlocks hP hS dX7_ofHoop_12 ⟨rfl, by unfold T_ofHoop; rw [if_neg (fun q => i_nle c1 q.1)]⟩
  · refine lv_iload_n F.1 F.2.1 dX7_ofHoop_4 rfl (lv_at hl 1 rfl) ?_
    refine lv_bipush (v := 7) F.1 F.2.1 dX7_ofHoop_5 (by decide) ?_
    refine lv_icmp_le (tgt := 13) F.1 F.2.1 dX7_ofHoop_7 (by decide) (fun c2 => ?_) (fun c2 => ?_)
    · refine lv_aload_n F.1 F.2.1 dX7_ofHoop_13 rfl (lv_at hl 0 rfl) ?_
      refine gf_X7_10 F hP (by omega) hc.1 (v := .ref (ad (o + 1))) rfl dX7_ofHoop_14 ?_
      refine gf_X7_111 F hP (by omega) hnow.1 (v := .ref (ad ((o + 1) + 10))) rfl dX7_ofHoop_17 ?_
      refine gf_X7_114 F hP (by omega) hnow.2.2.2.1 (v := .int (f 5)) rfl dX7_ofHoop_20 ?_
      refine lv_if_ne (tgt := 29) F.1 F.2.1 dX7_ofHoop_23 (by decide) (fun c3 => ?_) (fun c3 => ?_)
      · refine lv_aload_n F.1 F.2.1 dX7_ofHoop_29 rfl (lv_at hl 0 rfl) ?_
        refine gf_X7_10 F hP (by omega) hc.1 (v := .ref (ad (o + 1))) rfl dX7_ofHoop_30 ?_
        refine gf_X7_111 F hP (by omega) hnow.1 (v := .ref (ad ((o + 1) + 10))) rfl dX7_ofHoop_33 ?_
        refine lv_iload_n F.1 F.2.1 dX7_ofHoop_36 rfl (lv_at hl 1 rfl) ?_
        refine w_calls F hP hS (c_X7_aboutHoop l D Y ad N hI _ (o + 1 + 10) (by omega) f (GG 0) hnow.2.2.2.1 x) (cwSm 2 F.2.2.2.2.1 (fun _ h => h) mw_457 mw_455 mw_456 mw_2 rfl rfl ydX7_aboutHoop ⟨by decide, by decide⟩) rfl hl.1 rfl (Nat.le_of_ble_eq_true rfl) dX7_ofHoop_37 ⟨Nat.zero_le _, Nat.zero_le _⟩ (fun r C2 H locs hq hP hS => ?_)
        obtain ⟨hq1, hq2⟩ := hq; rw [hq1] at hP; subst hq2
        exact w_iret F hr hlocks hP hS dX7_ofHoop_40 ⟨rfl, by unfold T_ofHoop; rw [if_pos ⟨i_le c1, c2⟩, if_neg c3]⟩
      · refine lv_bipush (v := (-6)) F.1 F.2.1 dX7_ofHoop_26 (by decide) ?_
        exact w_iret F hr hlocks hP hS dX7_ofHoop_28 ⟨rfl, by unfold T_ofHoop; rw [if_pos ⟨i_le c1, c2⟩, if_pos c3]⟩
    · refine lv_bipush (v := (-2)) F.1 F.2.1 dX7_ofHoop_10 (by decide) ?_
      exact w_iret F hr hlocks hP hS dX7_ofHoop_12 ⟨rfl, by unfold T_ofHoop; rw [if_neg (fun q => c2 q.2)]⟩
theorem cnt_x {x : Int32} (h1 : x ≤ 15) (h2 : ¬ x = 14) (h3 : ¬ x = 15) (h4 : ¬ x < 10) : ∃ k : Nat, k < 4 ∧ x - 10 = nI k ∧ (x - 10).toNatClampNeg = k := by
  have a1 := Int32.le_iff_toInt_le.mp h1
  have a2 := Int32.le_iff_toInt_le.mp (i_le h4)
  have e2 : ¬ x.toInt = 14 := fun q => h2 (Int32.toInt_inj.mp q)
  have e3 : ¬ x.toInt = 15 := fun q => h3 (Int32.toInt_inj.mp q)
  have z : (15 : Int32).toInt = 15 := rfl
  have t : (10 : Int32).toInt = 10 := rfl
  have d := i_sub (a := x) (b := 10) (by omega) (by omega)
  obtain ⟨e1, l1, i1⟩ := nI_rd (x := x - 10) (M := 3) (by omega) (by omega)
  exact ⟨_, by omega, e1, rfl⟩
set_option maxRecDepth 20000 in
set_option maxHeartbeats 4000000 in
/-- count -/
theorem c_X7_count (l : Launch) (D : va_G) (Y : Nat → ClassId) (ad : Nat → Nat) (N : Nat) (hI : wI ad N) (C : Nat → va_E) (o : Nat) (hh : o + 170 ≤ N) (f : Nat → Int32) (hs : Nat → Nat → Int32) (kn : Nat) (sl : Nat → Nat → Int32) (sv : Nat → Int32) (pd : Nat → Int32) (n : Nat) (hA : clsA Y ad C o f hs kn sl sv pd n) (B : Int) (x : Int32) (hok : okRow B f) : Met l yX7_count (wm yX7_count cX7_count 2 (some .int)) { frames := 4, cells := 0, slots := 0, locals := 87 } (wPc D Y ad N [.ref (ad o), .int (x)] C) (wQi D ad N (fun r C' => C' = C ∧ r = T_count f kn n x)) 0 0 (wA ad N) := by
  obtain ⟨FF, GG, nx, fl, hc, hnx, hkn, hn80, h0, hhi, h7, h8, hv0, hv1⟩ := id hA
  have hnow : isState Y ad C (o + 1) f (GG 0) := by have q := hc.2.2.2.2.2.2.2 0 (by decide); rw [h0] at q; exact q
  obtain ⟨p1, p2, p3, hpd⟩ := hc.2.2.2.2.1
  refine wMet RX7 rfl (by decide +kernel) (Nat.le_of_ble_eq_true rfl) (lv := [(0, .ref (ad o)), (1, .int (x))]) rfl ?_
  intro p e s m below meth c ls F hr hlocks hP hl
  have hS : va_S (wA ad N) s.heap s.heap [] := va_S.rf
  refine lv_iload_n F.1 F.2.1 dX7_count_0 rfl (lv_at hl 1 rfl) ?_
  refine lv_if_lt (tgt := 10) F.1 F.2.1 dX7_count_1 (by decide) (fun c1 => ?_) (fun c1 => ?_)
  · refine lv_bipush (v := (-2)) F.1 F.2.1 dX7_count_10 (by decide) ?_
    exact w_iret F hr hlocks hP hS dX7_count_12 ⟨rfl, by unfold T_count; rw [if_neg (fun q => i_nle c1 q.1)]⟩
  · refine lv_iload_n F.1 F.2.1 dX7_count_4 rfl (lv_at hl 1 rfl) ?_
    refine lv_bipush (v := 15) F.1 F.2.1 dX7_count_5 (by decide) ?_
    refine lv_icmp_le (tgt := 13) F.1 F.2.1 dX7_count_7 (by decide) (fun c2 => ?_) (fun c2 => ?_)
    · refine lv_iload_n F.1 F.2.1 dX7_count_13 rfl (lv_at hl 1 rfl) ?_
      refine lv_bipush (v := 14) F.1 F.2.1 dX7_count_14 (by decide) ?_
      refine lv_icmp_ne (tgt := 27) F.1 F.2.1 dX7_count_16 (by decide) (fun c3 => ?_) (fun c3 => ?_)
      · refine lv_iload_n F.1 F.2.1 dX7_count_27 rfl (lv_at hl 1 rfl) ?_
        refine lv_bipush (v := 15) F.1 F.2.1 dX7_count_28 (by decide) ?_
        refine lv_icmp_ne (tgt := 41) F.1 F.2.1 dX7_count_30 (by decide) (fun c4 => ?_) (fun c4 => ?_)
        · refine lv_iload_n F.1 F.2.1 dX7_count_41 rfl (lv_at hl 1 rfl) ?_
          refine lv_bipush (v := 10) F.1 F.2.1 dX7_count_42 (by decide) ?_
          refine lv_icmp_lt (tgt := 62) F.1 F.2.1 dX7_count_44 (by decide) (fun c5 => ?_) (fun c5 => ?_)
          · refine lv_aload_n F.1 F.2.1 dX7_count_62 rfl (lv_at hl 0 rfl) ?_
            refine gf_X7_10 F hP (by omega) hc.1 (v := .ref (ad (o + 1))) rfl dX7_count_63 ?_
            refine lv_iload_n F.1 F.2.1 dX7_count_66 rfl (lv_at hl 1 rfl) ?_
            refine w_calli F hP hS (c_X6_number l D Y ad N hI _ (o + 1) (by omega) f (GG 0) hnow x hok.1) (cwVm 1 F.2.2.2.2.1 (fun _ h => h) mw_487 mw_484 mw_485 mw_486 mw_15 rfl rfl ydX6_number ⟨by decide, by decide⟩) (by omega) hnow.1 rfl rfl hl.1 rfl (Nat.le_of_ble_eq_true rfl) dX7_count_67 ⟨Nat.zero_le _, Nat.zero_le _⟩ (fun r C2 H locs hq hP hS => ?_)
            obtain ⟨hq1, hq2⟩ := hq; rw [hq1] at hP; subst hq2
            exact w_iret F hr hlocks hP hS dX7_count_70 ⟨rfl, by unfold T_count; rw [if_pos ⟨i_le c1, c2⟩, if_neg c3, if_neg c4, if_neg (i_nle c5)]⟩
          · refine lv_aload_n F.1 F.2.1 dX7_count_47 rfl (lv_at hl 0 rfl) ?_
            refine gf_X7_10 F hP (by omega) hc.1 (v := .ref (ad (o + 1))) rfl dX7_count_48 ?_
            refine gf_X7_45 F hP (by omega) hnow.1 (v := .ref (ad ((o + 1) + 1))) rfl dX7_count_51 ?_
            refine lv_iload_n F.1 F.2.1 dX7_count_54 rfl (lv_at hl 1 rfl) ?_
            refine lv_bipush (v := 10) F.1 F.2.1 dX7_count_55 (by decide) ?_
            refine lv_isub F.1 F.2.1 dX7_count_57 ?_
            obtain ⟨kx, hkx, ex, ecx⟩ := cnt_x c2 c3 c4 c5
            refine w_calli F hP hS (cx_X4_value l D Y ad N hI _ (o + 1 + 1) (by omega) f hnow.2.1 (x - 10) kx hkx ex) (cwVm 1 F.2.2.2.2.1 (fun _ h => h) mw_172 mw_483 mw_170 mw_171 mw_38 rfl rfl ydX4_value ⟨by decide, by decide⟩) (by omega) hnow.2.1.1 rfl rfl hl.1 rfl (Nat.le_of_ble_eq_true rfl) dX7_count_58 ⟨Nat.zero_le _, Nat.zero_le _⟩ (fun r C2 H locs hq hP hS => ?_)
            obtain ⟨hq1, hq2⟩ := hq; rw [hq1] at hP; subst hq2
            exact w_iret F hr hlocks hP hS dX7_count_61 ⟨rfl, by unfold T_count; rw [if_pos ⟨i_le c1, c2⟩, if_neg c3, if_neg c4, if_pos (i_le c5), ecx]⟩
        · refine lv_aload_n F.1 F.2.1 dX7_count_33 rfl (lv_at hl 0 rfl) ?_
          refine gf_X7_19 F hP (by omega) hc.1 (v := .ref (ad (o + 19))) rfl dX7_count_34 ?_
          refine gf_X7_134 F hP (by omega) hc.2.1.1 (v := .int (nI kn)) rfl dX7_count_37 ?_
          exact w_iret F hr hlocks hP hS dX7_count_40 ⟨rfl, by unfold T_count; rw [if_pos ⟨i_le c1, c2⟩, if_neg c3, if_pos c4]⟩
      · refine lv_aload_n F.1 F.2.1 dX7_count_19 rfl (lv_at hl 0 rfl) ?_
        refine gf_X7_34 F hP (by omega) hc.1 (v := .ref (ad (o + 167))) rfl dX7_count_20 ?_
        refine gf_X7_130 F hP (by omega) hpd (v := .int (nI n)) rfl dX7_count_23 ?_
        exact w_iret F hr hlocks hP hS dX7_count_26 ⟨rfl, by unfold T_count; rw [if_pos ⟨i_le c1, c2⟩, if_pos c3]⟩
    · refine lv_bipush (v := (-2)) F.1 F.2.1 dX7_count_10 (by decide) ?_
      exact w_iret F hr hlocks hP hS dX7_count_12 ⟨rfl, by unfold T_count; rw [if_neg (fun q => c2 q.2)]⟩
theorem A_pad {Y : Nat → ClassId} {ad : Nat → Nat} {C' : Nat → va_E} {o : Nat} {f : Nat → Int32} {hs : Nat → Nat → Int32} {kn : Nat} {sl : Nat → Nat → Int32} {sv pd' : Nat → Int32} {n' : Nat} {FF : Nat → Nat → Int32} {GG : Nat → Int32} {nx : Nat} {fl : Nat → Int32} (hnx : nx < 6) (hkn : kn ≤ 6) (hn80 : n' ≤ 80) (h0 : FF 0 = f) (hhi : ∀ i, i < kn → FF (1 + (nx + 6 - kn + i) % 6) = hs i) (h7 : FF 7 = sl 0) (h8 : FF 8 = sl 1) (hv0 : fl 0 = sv 0) (hv1 : fl 1 = sv 1)
    (hc : isCls Y ad C' o FF GG nx kn fl pd' n') : clsA Y ad C' o f hs kn sl sv pd' n' := ⟨FF, GG, nx, fl, hc, hnx, hkn, hn80, h0, hhi, h7, h8, hv0, hv1⟩
theorem M_many_8 (c : Int64) : M_many c 8 ≤ 8 := M_many_le c 8
theorem cnt_is (c : Int64) : ∃ m : Nat, m ≤ 8 ∧ M_cnt c = nI m ∧ (M_cnt c).toNatClampNeg = m := by
  unfold M_cnt
  by_cases h : M_right c 8
  · rw [if_pos h]; exact ⟨_, M_many_le c 8, rfl, nI_clamp (by have := M_many_le c 8; omega)⟩
  · rw [if_neg h]; exact ⟨0, by decide, rfl, rfl⟩
theorem add_le {n m : Nat} (h1 : n ≤ 80) (h2 : m ≤ 8) : nI n + nI m ≤ 80 ↔ n + m ≤ 80 := by
  rw [nI_add]; exact nI_leI (b := 80) (by omega) (by decide)
noncomputable def T_pute (ch : Int64) (n : Nat) : Int32 := if M_cnt ch = 0 then -2 else if nI n + M_cnt ch ≤ 80 then 0 else -4
set_option maxRecDepth 20000 in
set_option maxHeartbeats 4000000 in
/-- undo -/
theorem c_X7_undo (l : Launch) (D : va_G) (Y : Nat → ClassId) (ad : Nat → Nat) (N : Nat) (hI : wI ad N) (C : Nat → va_E) (o : Nat) (hh : o + 170 ≤ N) (f : Nat → Int32) (hs : Nat → Nat → Int32) (kn : Nat) (sl : Nat → Nat → Int32) (sv : Nat → Int32) (pd : Nat → Int32) (n : Nat) (hA : clsA Y ad C o f hs kn sl sv pd n) (hz : f 5 = 0 ∨ f 5 = 1) (hzh : ∀ i, i < kn → hs i 5 = 0 ∨ hs i 5 = 1) (hzs : ∀ i, i < 2 → sl i 5 = 0 ∨ sl i 5 = 1) : Met l yX7_undo (wm yX7_undo cX7_undo 1 (some .int)) { frames := 4, cells := 0, slots := 0, locals := 89 } (wPc D Y ad N [.ref (ad o)] C) (wQi D ad N (fun r C' => (¬ kn = 0 → r = nI (kn - 1) ∧ clsA Y ad C' o (hs (kn - 1)) hs (kn - 1) sl sv pd n ∧ ∀ j, j < o ∨ o + 170 ≤ j → C' j = C j) ∧ (kn = 0 → r = -5 ∧ C' = C))) 0 0 (wA ad N) := by
  obtain ⟨FF, GG, nx, fl, hc, hnx, hkn, hn80, h0, hhi, h7, h8, hv0, hv1⟩ := id hA
  have hnow : isState Y ad C (o + 1) f (GG 0) := by have q := hc.2.2.2.2.2.2.2 0 (by decide); rw [h0] at q; exact q
  refine wMet RX7 rfl (by decide +kernel) (Nat.le_of_ble_eq_true rfl) (lv := [(0, .ref (ad o))]) rfl ?_
  intro p e s m below meth c ls F hr hlocks hP hl
  have hS : va_S (wA ad N) s.heap s.heap [] := va_S.rf
  refine lv_aload_n F.1 F.2.1 dX7_undo_0 rfl (lv_at hl 0 rfl) ?_
  refine gf_X7_19 F hP (by omega) hc.1 (v := .ref (ad (o + 19))) rfl dX7_undo_1 ?_
  refine gf_X7_134 F hP (by omega) hc.2.1.1 (v := .int (nI kn)) rfl dX7_undo_4 ?_
  refine lv_if_ne (tgt := 13) F.1 F.2.1 dX7_undo_7 (by decide) (fun c1 => ?_) (fun c1 => ?_)
  · refine lv_aload_n F.1 F.2.1 dX7_undo_13 rfl (lv_at hl 0 rfl) ?_
    refine gf_X7_19 F hP (by omega) hc.1 (v := .ref (ad (o + 19))) rfl dX7_undo_14 ?_
    refine lv_aload_n F.1 F.2.1 dX7_undo_17 rfl (lv_at hl 0 rfl) ?_
    refine gf_X7_10 F hP (by omega) hc.1 (v := .ref (ad (o + 1))) rfl dX7_undo_18 ?_
    have h1n : 1 ≤ kn := Nat.pos_of_ne_zero (fun q => c1 (by rw [q]; rfl))
    have hlt : (nx + 5) % 6 < 6 := Nat.mod_lt _ (by decide)
    have hbe := bs_ring hlt
    have hF1 : FF ((nx + 5) % 6 + 1) = hs (kn - 1) := (congrArg FF (by omega)).trans (hhi (kn - 1) (by omega))
    have htg : isState Y ad C (o + 19 + 2 + 18 * ((nx + 5) % 6)) (hs (kn - 1)) (GG ((nx + 5) % 6 + 1)) := by have q := hc.2.2.2.2.2.2.2 ((nx + 5) % 6 + 1) (by omega); rw [hbe, show o + (21 + 18 * ((nx + 5) % 6)) = o + 19 + 2 + 18 * ((nx + 5) % 6) by omega, hF1] at q; exact q
    refine w_calli F hP hS (c_X0_stepBack l D Y ad N hI _ (o + 19) (o + 1) (by omega) (by omega) (by omega) nx kn hnx hkn hc.2.1 f (hs (kn - 1)) (GG 0) (GG ((nx + 5) % 6 + 1)) hnow htg (hzh _ (by omega)) h1n) (cwVm 1 F.2.2.2.2.1 (fun _ h => h) mw_709 mw_679 mw_680 mw_681 mw_19 rfl rfl ydX0_stepBack ⟨by decide, by decide⟩) (by omega) hc.2.1.1 rfl rfl hl.1 rfl (Nat.le_of_ble_eq_true rfl) dX7_undo_21 ⟨Nat.zero_le _, Nat.zero_le _⟩ (fun r1 K1 H locs hq1 hP hS => ?_)
    obtain ⟨hq1r, hq1a, hq1b, hq1c⟩ := hq1
    have hc1 := cls_back hc hq1a hq1b (fun j a z => hq1c j a (by omega))
    exact w_iret F hr hlocks hP hS dX7_undo_24 ⟨fun _ => ⟨hq1r, ⟨_, _, _, fl, hc1, hlt, by omega, hn80, va_up_self _ _ _, fun i hi => by rw [va_up_ne _ _ (by omega), ← hhi i (by omega)]; exact congrArg FF (by omega), by rw [va_up_ne _ _ (by decide)]; exact h7, by rw [va_up_ne _ _ (by decide)]; exact h8, hv0, hv1⟩, fun j hj => hq1c j (by omega) (by omega)⟩, fun q => absurd q (fun t => by omega)⟩
  · refine lv_bipush (v := (-5)) F.1 F.2.1 dX7_undo_10 (by decide) ?_
    exact w_iret F hr hlocks hP hS dX7_undo_12 ⟨fun q => absurd (nI_eq (by omega) (by decide) |>.mp c1) q, fun _ => ⟨rfl, rfl⟩⟩
theorem slot_x {x : Int32} (h1 : ¬ x < 0) (h2 : x < 2) : ∃ k : Nat, k < 2 ∧ x = nI k ∧ x.toNatClampNeg = k := lt_x (m := 2) (by decide) (i_le h1) h2
theorem slot_eq {FF : Nat → Nat → Int32} {sl : Nat → Nat → Int32} (h7 : FF 7 = sl 0) (h8 : FF 8 = sl 1) {k : Nat} (hk : k < 2) : FF (7 + k) = sl k := by
  have : k = 0 ∨ k = 1 := by omega
  rcases this with e | e <;> subst e <;> assumption
theorem flag_eq {fl sv : Nat → Int32} (h7 : fl 0 = sv 0) (h8 : fl 1 = sv 1) {k : Nat} (hk : k < 2) : fl k = sv k := by
  have : k = 0 ∨ k = 1 := by omega
  rcases this with e | e <;> subst e <;> assumption
theorem A_save {Y : Nat → ClassId} {ad : Nat → Nat} {C' : Nat → va_E} {o : Nat} {f : Nat → Int32} {hs : Nat → Nat → Int32} {kn : Nat} {sl : Nat → Nat → Int32} {sv pd : Nat → Int32} {n : Nat} {FF : Nat → Nat → Int32} {G' : Nat → Int32} {nx k : Nat} {fl : Nat → Int32} (hnx : nx < 6) (hkn : kn ≤ 6) (hn80 : n ≤ 80) (h0 : FF 0 = f) (hhi : ∀ i, i < kn → FF (1 + (nx + 6 - kn + i) % 6) = hs i) (h7 : FF 7 = sl 0) (h8 : FF 8 = sl 1) (hv0 : fl 0 = sv 0) (hv1 : fl 1 = sv 1) (hk : k < 2)
    (hc : isCls Y ad C' o (va_up FF (7 + k) f) G' nx kn (upd fl k 1) pd n) : clsA Y ad C' o f hs kn (va_up sl k f) (upd sv k 1) pd n := by
  refine ⟨_, _, _, _, hc, hnx, hkn, hn80, by rw [va_up_ne _ _ (by omega)]; exact h0, fun i hi => by rw [va_up_ne _ _ (by omega)]; exact hhi i hi, ?_, ?_, ?_, ?_⟩
  all_goals (have : k = 0 ∨ k = 1 := by omega
             rcases this with e | e <;> subst e <;> simp [va_up, upd, h7, h8, hv0, hv1])
set_option maxRecDepth 20000 in
set_option maxHeartbeats 4000000 in
/-- save -/
theorem c_X7_save (l : Launch) (D : va_G) (Y : Nat → ClassId) (ad : Nat → Nat) (N : Nat) (hI : wI ad N) (C : Nat → va_E) (o : Nat) (hh : o + 170 ≤ N) (f : Nat → Int32) (hs : Nat → Nat → Int32) (kn : Nat) (sl : Nat → Nat → Int32) (sv : Nat → Int32) (pd : Nat → Int32) (n : Nat) (hA : clsA Y ad C o f hs kn sl sv pd n) (x : Int32) (hz : f 5 = 0 ∨ f 5 = 1) (hzh : ∀ i, i < kn → hs i 5 = 0 ∨ hs i 5 = 1) (hzs : ∀ i, i < 2 → sl i 5 = 0 ∨ sl i 5 = 1) : Met l yX7_save (wm yX7_save cX7_save 2 (some .int)) { frames := 3, cells := 0, slots := 0, locals := 67 } (wPc D Y ad N [.ref (ad o), .int (x)] C) (wQi D ad N (fun r C' => ((if 0 ≤ x ∧ x < 2 then (0 : Int32) else -2) = 0 → r = f 4 ∧ clsA Y ad C' o f hs kn (va_up sl x.toNatClampNeg f) (upd sv x.toNatClampNeg 1) pd n ∧ ∀ j, j < o ∨ o + 170 ≤ j → C' j = C j) ∧ (¬ (if 0 ≤ x ∧ x < 2 then (0 : Int32) else -2) = 0 → r = (if 0 ≤ x ∧ x < 2 then (0 : Int32) else -2) ∧ C' = C))) 0 0 (wA ad N) := by
  obtain ⟨FF, GG, nx, fl, hc, hnx, hkn, hn80, h0, hhi, h7, h8, hv0, hv1⟩ := id hA
  have hnow : isState Y ad C (o + 1) f (GG 0) := by have q := hc.2.2.2.2.2.2.2 0 (by decide); rw [h0] at q; exact q
  obtain ⟨qs, hsq, hsi⟩ := hc.2.2.1
  refine wMet RX7 rfl (by decide +kernel) (Nat.le_of_ble_eq_true rfl) (lv := [(0, .ref (ad o)), (1, .int (x))]) rfl ?_
  intro p e s m below meth c ls F hr hlocks hP hl
  have hS : va_S (wA ad N) s.heap s.heap [] := va_S.rf
  refine lv_iload_n F.1 F.2.1 dX7_save_0 rfl (lv_at hl 1 rfl) ?_
  refine lv_if_lt (tgt := 9) F.1 F.2.1 dX7_save_1 (by decide) (fun c1 => ?_) (fun c1 => ?_)
  · refine lv_bipush (v := (-2)) F.1 F.2.1 dX7_save_9 (by decide) ?_
    exact w_iret F hr hlocks hP hS dX7_save_11 ⟨fun q => absurd q (by rw [if_neg (fun q => i_nle c1 q.1)]; decide), fun _ => ⟨(if_neg (fun q => i_nle c1 q.1)).symm, rfl⟩⟩
  · refine lv_iload_n F.1 F.2.1 dX7_save_4 rfl (lv_at hl 1 rfl) ?_
    refine lv_iconst (v := 2) F.1 F.2.1 dX7_save_5 (by decide) ?_
    refine lv_icmp_lt (tgt := 12) F.1 F.2.1 dX7_save_6 (by decide) (fun c2 => ?_) (fun c2 => ?_)
    · obtain ⟨k, hk, ek, ecl⟩ := slot_x c1 c2
      refine lv_aload_n F.1 F.2.1 dX7_save_12 rfl (lv_at hl 0 rfl) ?_
      refine gf_X7_23 F hP (by omega) hc.1 (v := .ref (ad (o + 129))) rfl dX7_save_13 ?_
      refine lv_iload_n F.1 F.2.1 dX7_save_16 rfl (lv_at hl 1 rfl) ?_
      refine w_qald F hP (by omega) hsq (k := k) ek hk (Nat.le_of_ble_eq_true rfl) (v := ad (o + bs (7 + k))) (hsi k hk) dX7_save_17 ?_
      refine lv_aload_n F.1 F.2.1 dX7_save_18 rfl (lv_at hl 0 rfl) ?_
      refine gf_X7_10 F hP (by omega) hc.1 (v := .ref (ad (o + 1))) rfl dX7_save_19 ?_
      have hbk := bs_in (show 7 + k < 9 by omega)
      have hb0 := bs_apart (show 0 < 9 by decide) (show 7 + k < 9 by omega) (by omega)
      have hbz : bs 0 = 1 := rfl
      refine w_callv F hP hS (c_X6_copyFrom l D Y ad N hI _ (o + bs (7 + k)) (o + 1) (by omega) (by omega) (by omega) _ f _ (GG 0) (hc.2.2.2.2.2.2.2 (7 + k) (by omega)) hnow hz) (cwVm 1 F.2.2.2.2.1 (fun _ h => h) mw_132 mw_691 mw_130 mw_131 mw_15 rfl rfl ydX6_copyFrom ⟨by decide, by decide⟩) (by omega) (hc.2.2.2.2.2.2.2 (7 + k) (by omega)).1 rfl rfl hl.1 rfl (Nat.le_of_ble_eq_true rfl) dX7_save_22 ⟨Nat.zero_le _, Nat.zero_le _⟩ (fun K1 H locs hq1 hP hS => ?_)
      obtain ⟨hq1a, hq1c⟩ := hq1
      have hc1 := cls_st (7 + k) (by omega) hc hq1a (fun j hj => hq1c j hj)
      have hnow1 : isState Y ad K1 (o + 1) f (GG 0) := isState_same hnow (fun j a z => hq1c j (by omega))
      refine lv_aload_n F.1 F.2.1 dX7_save_25 rfl (lv_at hl 0 rfl) ?_
      refine gf_X7_27 F hP (by omega) hc1.1 (v := .ref (ad (o + 166))) rfl dX7_save_26 ?_
      refine lv_iload_n F.1 F.2.1 dX7_save_29 rfl (lv_at hl 1 rfl) ?_
      refine lv_iconst (v := 1) F.1 F.2.1 dX7_save_30 (by decide) ?_
      obtain ⟨K2, eK2⟩ : ∃ z, z = va_up K1 (o + 166) (.inl (Y 1, 2, .inl (upd fl k 1))) := ⟨_, rfl⟩
      refine w_zast F hI hP hS (by omega) hc1.2.2.2.1 (k := k) ek hk (Nat.le_of_ble_eq_true rfl) rfl (fun j => (congrFun eK2 j).symm) dX7_save_31 (fun H locs hP hS => ?_)
      have sf2 : ∀ j, j ≠ o + 166 → K2 j = K1 j := fun j hj => by rw [eK2, va_up_ne _ _ hj]
      have hc2 := cls_flag hc1 (by rw [eK2]; exact va_up_self _ _ _) sf2
      have hnow2 : isState Y ad K2 (o + 1) f (GG 0) := isState_same hnow1 (fun j a z => sf2 j (by omega))
      refine lv_aload_n F.1 F.2.1 dX7_save_32 rfl (lv_at hl 0 rfl) ?_
      refine gf_X7_10 F hP (by omega) hc2.1 (v := .ref (ad (o + 1))) rfl dX7_save_33 ?_
      refine gf_X7_70 F hP (by omega) hnow2.1 (v := .ref (ad ((o + 1) + 3))) rfl dX7_save_36 ?_
      refine gf_X7_224 F hP (by omega) hnow2.2.2.1.1 (v := .int (f 4)) rfl dX7_save_39 ?_
      exact w_iret F hr hlocks hP hS dX7_save_42 ⟨fun _ => ⟨rfl, by rw [ecl]; exact A_save hnx hkn hn80 h0 hhi h7 h8 hv0 hv1 hk hc2, fun j hj => (sf2 j (by omega)).trans (hq1c j (by omega))⟩, fun q => absurd (if_pos ⟨i_le c1, c2⟩) q⟩
    · refine lv_bipush (v := (-2)) F.1 F.2.1 dX7_save_9 (by decide) ?_
      exact w_iret F hr hlocks hP hS dX7_save_11 ⟨fun q => absurd q (by rw [if_neg (fun q => c2 q.2)]; decide), fun _ => ⟨(if_neg (fun q => c2 q.2)).symm, rfl⟩⟩
def T_ree (sv : Nat → Int32) (x : Int32) : Int32 := if 0 ≤ x ∧ x < 2 then (if sv x.toNatClampNeg = 0 then -5 else 0) else -2
set_option maxRecDepth 20000 in
set_option maxHeartbeats 4000000 in
/-- restore -/
theorem c_X7_restore (l : Launch) (D : va_G) (Y : Nat → ClassId) (ad : Nat → Nat) (N : Nat) (hI : wI ad N) (C : Nat → va_E) (o : Nat) (hh : o + 170 ≤ N) (f : Nat → Int32) (hs : Nat → Nat → Int32) (kn : Nat) (sl : Nat → Nat → Int32) (sv : Nat → Int32) (pd : Nat → Int32) (n : Nat) (hA : clsA Y ad C o f hs kn sl sv pd n) (x : Int32) (hz : f 5 = 0 ∨ f 5 = 1) (hzh : ∀ i, i < kn → hs i 5 = 0 ∨ hs i 5 = 1) (hzs : ∀ i, i < 2 → sl i 5 = 0 ∨ sl i 5 = 1) : Met l yX7_restore (wm yX7_restore cX7_restore 2 (some .int)) { frames := 4, cells := 0, slots := 0, locals := 88 } (wPc D Y ad N [.ref (ad o), .int (x)] C) (wQi D ad N (fun r C' => (T_ree sv x = 0 → r = sl x.toNatClampNeg 4 ∧ clsA Y ad C' o (sl x.toNatClampNeg) (H_rec f hs kn) (K_rec kn) sl sv pd n ∧ ∀ j, j < o ∨ o + 170 ≤ j → C' j = C j) ∧ (¬ T_ree sv x = 0 → r = T_ree sv x ∧ C' = C))) 0 0 (wA ad N) := by
  obtain ⟨FF, GG, nx, fl, hc, hnx, hkn, hn80, h0, hhi, h7, h8, hv0, hv1⟩ := id hA
  have hnow : isState Y ad C (o + 1) f (GG 0) := by have q := hc.2.2.2.2.2.2.2 0 (by decide); rw [h0] at q; exact q
  obtain ⟨qs, hsq, hsi⟩ := hc.2.2.1
  refine wMet RX7 rfl (by decide +kernel) (Nat.le_of_ble_eq_true rfl) (lv := [(0, .ref (ad o)), (1, .int (x))]) rfl ?_
  intro p e s m below meth c ls F hr hlocks hP hl
  have hS : va_S (wA ad N) s.heap s.heap [] := va_S.rf
  refine lv_iload_n F.1 F.2.1 dX7_restore_0 rfl (lv_at hl 1 rfl) ?_
  refine lv_if_lt (tgt := 9) F.1 F.2.1 dX7_restore_1 (by decide) (fun c1 => ?_) (fun c1 => ?_)
  · refine lv_bipush (v := (-2)) F.1 F.2.1 dX7_restore_9 (by decide) ?_
    exact w_iret F hr hlocks hP hS dX7_restore_11 ⟨fun q => absurd q (by unfold T_ree; rw [if_neg (fun q => i_nle c1 q.1)]; decide), fun _ => ⟨by unfold T_ree; rw [if_neg (fun q => i_nle c1 q.1)], rfl⟩⟩
  · refine lv_iload_n F.1 F.2.1 dX7_restore_4 rfl (lv_at hl 1 rfl) ?_
    refine lv_iconst (v := 2) F.1 F.2.1 dX7_restore_5 (by decide) ?_
    refine lv_icmp_lt (tgt := 12) F.1 F.2.1 dX7_restore_6 (by decide) (fun c2 => ?_) (fun c2 => ?_)
    · obtain ⟨k, hk, ek, ecl⟩ := slot_x c1 c2
      refine lv_aload_n F.1 F.2.1 dX7_restore_12 rfl (lv_at hl 0 rfl) ?_
      refine gf_X7_27 F hP (by omega) hc.1 (v := .ref (ad (o + 166))) rfl dX7_restore_13 ?_
      refine lv_iload_n F.1 F.2.1 dX7_restore_16 rfl (lv_at hl 1 rfl) ?_
      refine w_zald F hP (by omega) hc.2.2.2.1 (k := k) ek hk (Nat.le_of_ble_eq_true rfl) (v := fl k) rfl dX7_restore_17 ?_
      refine lv_if_ne (tgt := 24) F.1 F.2.1 dX7_restore_18 (by decide) (fun c3 => ?_) (fun c3 => ?_)
      · refine lv_aload_n F.1 F.2.1 dX7_restore_24 rfl (lv_at hl 0 rfl) ?_
        refine gf_X7_19 F hP (by omega) hc.1 (v := .ref (ad (o + 19))) rfl dX7_restore_25 ?_
        refine lv_aload_n F.1 F.2.1 dX7_restore_28 rfl (lv_at hl 0 rfl) ?_
        refine gf_X7_10 F hP (by omega) hc.1 (v := .ref (ad (o + 1))) rfl dX7_restore_29 ?_
        have hbe := bs_ring hnx
        have htg : isState Y ad C (o + 19 + 2 + 18 * nx) (FF (nx + 1)) (GG (nx + 1)) := by have q := hc.2.2.2.2.2.2.2 (nx + 1) (by omega); rw [hbe, show o + (21 + 18 * nx) = o + 19 + 2 + 18 * nx by omega] at q; exact q
        refine w_callv F hP hS (c_X0_record l D Y ad N hI _ (o + 19) (o + 1) (by omega) (by omega) (by omega) nx kn hnx hkn hc.2.1 f (FF (nx + 1)) (GG 0) (GG (nx + 1)) hnow htg hz) (cwVm 1 F.2.2.2.2.1 (fun _ h => h) mw_124 mw_121 mw_122 mw_123 mw_19 rfl rfl ydX0_record ⟨by decide, by decide⟩) (by omega) hc.2.1.1 rfl rfl hl.1 rfl (Nat.le_of_ble_eq_true rfl) dX7_restore_32 ⟨Nat.zero_le _, Nat.zero_le _⟩ (fun K1 H locs hq1 hP hS => ?_)
        obtain ⟨hq1a, hq1b, hq1c⟩ := hq1
        have hc1 := cls_rec hnx hc hq1a hq1b hq1c
        have hnow1 : isState Y ad K1 (o + 1) f (GG 0) := isState_same hnow (fun j a z => hq1c j (by omega) (by omega))
        have fr1 : ∀ j, j < o ∨ o + 170 ≤ j → K1 j = C j := fun j hj => (hq1c j (by omega) (by omega)).trans ((fun _ _ => rfl) j hj)
        obtain ⟨qt, hsq1, hsi1⟩ := hc1.2.2.1
        refine lv_aload_n F.1 F.2.1 dX7_restore_35 rfl (lv_at hl 0 rfl) ?_
        refine gf_X7_10 F hP (by omega) hc1.1 (v := .ref (ad (o + 1))) rfl dX7_restore_36 ?_
        refine lv_aload_n F.1 F.2.1 dX7_restore_39 rfl (lv_at hl 0 rfl) ?_
        refine gf_X7_23 F hP (by omega) hc1.1 (v := .ref (ad (o + 129))) rfl dX7_restore_40 ?_
        refine lv_iload_n F.1 F.2.1 dX7_restore_43 rfl (lv_at hl 1 rfl) ?_
        refine w_qald F hP (by omega) hsq1 (k := k) ek hk (Nat.le_of_ble_eq_true rfl) (v := ad (o + bs (7 + k))) (hsi1 k hk) dX7_restore_44 ?_
        have hbk := bs_in (show 7 + k < 9 by omega)
        have hb0 := bs_apart (show 0 < 9 by decide) (show 7 + k < 9 by omega) (by omega)
        have hbz : bs 0 = 1 := rfl
        have hsl : isState Y ad K1 (o + bs (7 + k)) (sl k) (GG (7 + k)) := by have q := hc1.2.2.2.2.2.2.2 (7 + k) (by omega); rw [va_up_ne _ _ (by omega), va_up_ne _ _ (by omega), slot_eq h7 h8 hk] at q; exact q
        refine w_callv F hP hS (c_X6_copyFrom l D Y ad N hI _ (o + 1) (o + bs (7 + k)) (by omega) (by omega) (by omega) f (sl k) (GG 0) _ hnow1 hsl (hzs k hk)) (cwVm 1 F.2.2.2.2.1 (fun _ h => h) mw_132 mw_691 mw_130 mw_131 mw_15 rfl rfl ydX6_copyFrom ⟨by decide, by decide⟩) (by omega) hnow1.1 rfl rfl hl.1 rfl (Nat.le_of_ble_eq_true rfl) dX7_restore_45 ⟨Nat.zero_le _, Nat.zero_le _⟩ (fun K2 H locs hq2 hP hS => ?_)
        obtain ⟨hq2a, hq2c⟩ := hq2
        have hc2 := cls_st 0 (by decide) hc1 hq2a (fun j hj => hq2c j hj)
        have fr2 : ∀ j, j < o ∨ o + 170 ≤ j → K2 j = C j := fun j hj => (hq2c j (by omega)).trans (fr1 j hj)
        refine lv_aload_n F.1 F.2.1 dX7_restore_48 rfl (lv_at hl 0 rfl) ?_
        refine gf_X7_10 F hP (by omega) hc2.1 (v := .ref (ad (o + 1))) rfl dX7_restore_49 ?_
        refine gf_X7_70 F hP (by omega) hq2a.1 (v := .ref (ad ((o + 1) + 3))) rfl dX7_restore_52 ?_
        refine gf_X7_224 F hP (by omega) hq2a.2.2.1.1 (v := .int ((sl k) 4)) rfl dX7_restore_55 ?_
        exact w_iret F hr hlocks hP hS dX7_restore_58 ⟨fun _ => ⟨by rw [ecl], by rw [ecl]; exact A_rec hnx hkn hn80 h0 hhi h7 h8 hv0 hv1 hc2, fr2⟩, fun q => absurd (by unfold T_ree; rw [if_pos ⟨i_le c1, c2⟩, ecl, ← flag_eq hv0 hv1 hk, if_neg c3]) q⟩
      · refine lv_bipush (v := (-5)) F.1 F.2.1 dX7_restore_21 (by decide) ?_
        exact w_iret F hr hlocks hP hS dX7_restore_23 ⟨fun q => absurd q (by unfold T_ree; rw [if_pos ⟨i_le c1, c2⟩, ecl, ← flag_eq hv0 hv1 hk, if_pos c3]; decide), fun _ => ⟨by unfold T_ree; rw [if_pos ⟨i_le c1, c2⟩, ecl, ← flag_eq hv0 hv1 hk, if_pos c3], rfl⟩⟩
    · refine lv_bipush (v := (-2)) F.1 F.2.1 dX7_restore_9 (by decide) ?_
      exact w_iret F hr hlocks hP hS dX7_restore_11 ⟨fun q => absurd q (by unfold T_ree; rw [if_neg (fun q => c2 q.2)]; decide), fun _ => ⟨by unfold T_ree; rw [if_neg (fun q => c2 q.2)], rfl⟩⟩

