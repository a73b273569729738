/-! HoopStairs: its plain calls -/
def H_rec (f : Nat → Int32) (hs : Nat → Nat → Int32) (kn : Nat) : Nat → Nat → Int32 := fun i => if kn = 6 then (if i < 5 then hs (i + 1) else f) else (if i = kn then f else hs i)
def K_rec (kn : Nat) : Nat := if kn = 6 then 6 else kn + 1
/-- a HoopStairs, as the document's state: now f; the kn states before, the oldest first; the slots, what is saved; the pad -/
def clsA (Y : Nat → ClassId) (ad : Nat → Nat) (C : Nat → va_E) (o : Nat) (f : Nat → Int32) (hs : Nat → Nat → Int32) (kn : Nat) (sl : Nat → Nat → Int32) (sv pd : Nat → Int32) (n : Nat) : Prop :=
  ∃ (FF : Nat → Nat → Int32) (GG : Nat → Int32) (nx : Nat) (fl : Nat → Int32), isCls Y ad C o FF GG nx kn fl pd n ∧ nx < 6 ∧ kn ≤ 6 ∧ n ≤ 80 ∧ FF 0 = f ∧ (∀ i, i < kn → FF (1 + (nx + 6 - kn + i) % 6) = hs i) ∧ FF 7 = sl 0 ∧ FF 8 = sl 1 ∧ fl 0 = sv 0 ∧ fl 1 = sv 1
theorem A_rec {Y : Nat → ClassId} {ad : Nat → Nat} {C' : Nat → va_E} {o : Nat} {f f' : Nat → Int32} {hs : Nat → Nat → Int32} {kn : Nat} {sl : Nat → Nat → Int32} {sv pd' : Nat → Int32} {n' : Nat} {FF : Nat → Nat → Int32} {G' : Nat → Int32} {nx : Nat} {fl : Nat → Int32} (hnx : nx < 6) (hkn : kn ≤ 6) (hn80 : n' ≤ 80) (h0 : FF 0 = f) (hhi : ∀ i, i < kn → FF (1 + (nx + 6 - kn + i) % 6) = hs i) (h7 : FF 7 = sl 0) (h8 : FF 8 = sl 1) (hv0 : fl 0 = sv 0) (hv1 : fl 1 = sv 1)
    (hc : isCls Y ad C' o (va_up (va_up FF (nx + 1) f) 0 f') G' ((nx + 1) % 6) (if kn = 6 then 6 else kn + 1) fl pd' n') : clsA Y ad C' o f' (H_rec f hs kn) (K_rec kn) sl sv pd' n' := by
  refine ⟨_, _, _, _, hc, by omega, by unfold K_rec; split <;> omega, hn80, va_up_self _ _ _, fun i hi => ?_, ?_, ?_, hv0, hv1⟩
  · unfold K_rec at hi ⊢
    unfold H_rec
    rw [va_up_ne _ _ (by omega)]
    by_cases a : kn = 6
    · rw [if_pos a] at hi ⊢
      rw [if_pos a]
      by_cases b : i < 5
      · rw [if_pos b, va_up_ne _ _ (by omega), ← hhi (i + 1) (by omega)]
        exact congrArg FF (by omega)
      · rw [if_neg b, show 1 + ((nx + 1) % 6 + 6 - 6 + i) % 6 = nx + 1 by omega, va_up_self]
    · rw [if_neg a] at hi ⊢
      rw [if_neg a]
      by_cases b : i = kn
      · rw [if_pos b, show 1 + ((nx + 1) % 6 + 6 - (kn + 1) + i) % 6 = nx + 1 by omega, va_up_self]
      · rw [if_neg b, va_up_ne _ _ (by omega), ← hhi i (by omega)]
        exact congrArg FF (by omega)
  · rw [va_up_ne _ _ (by decide), va_up_ne _ _ (by omega)]; exact h7
  · rw [va_up_ne _ _ (by decide), va_up_ne _ _ (by omega)]; exact h8
/-- what holds of a row in every state -/
def okRow (B : Int) (f : Nat → Int32) : Prop := okS f ∧ (f 5 = 0 ∨ f 5 = 1) ∧ (f 5 = 1 → okH B f) ∧ (0 ≤ (f 20).toInt ∧ (f 20).toInt ≤ 10)
theorem pe_0 {x kd v : Int32} {f : Nat → Int32} (h : T_pe x kd v f = 0) (hs : okS f) : ∃ kp n : Nat, x = nI kp ∧ kp ≤ n ∧ n < 20 ∧ f 4 = nI n ∧ x.toNatClampNeg = kp ∧ (0 ≤ kd ∧ kd ≤ 2 ∧ 1 ≤ v ∧ v ≤ (if kd = 2 then 99 else 9)) := by
  unfold T_pe at h
  by_cases a : 0 ≤ x ∧ x ≤ f 4
  · rw [if_pos a] at h
    by_cases b : 0 ≤ kd ∧ kd ≤ 2 ∧ 1 ≤ v ∧ v ≤ (if kd = 2 then 99 else 9)
    · rw [if_pos b] at h
      by_cases c : 20 ≤ f 4
      · rw [if_pos c] at h; exact absurd h (by decide)
      · have a1 := Int32.le_iff_toInt_le.mp a.1
        have a2 := Int32.le_iff_toInt_le.mp a.2
        rw [Int32.le_iff_toInt_le] at c
        have z : (0 : Int32).toInt = 0 := rfl
        have t : (20 : Int32).toInt = 20 := rfl
        have s4 := hs.2.2.2.2.1
        obtain ⟨e1, l1, i1⟩ := nI_rd (x := x) (M := 20) (by omega) (by omega)
        obtain ⟨e2, l2, i2⟩ := nI_rd (x := f 4) (M := 20) s4.1 s4.2
        exact ⟨x.toNatClampNeg, (f 4).toNatClampNeg, e1, by omega, by omega, e2, rfl, b⟩
    · rw [if_neg b] at h; exact absurd h (by decide)
  · rw [if_neg a] at h; exact absurd h (by decide)
theorem has_0 {x : Int32} {f : Nat → Int32} (h : 0 ≤ x ∧ x < f 4 ∧ x < 20) (hs : okS f) : ∃ kp n : Nat, x = nI kp ∧ kp < n ∧ n ≤ 20 ∧ f 4 = nI n ∧ x.toNatClampNeg = kp := by
  have a1 := Int32.le_iff_toInt_le.mp h.1
  have a2 := Int32.lt_iff_toInt_lt.mp h.2.1
  have z : (0 : Int32).toInt = 0 := rfl
  have s4 := hs.2.2.2.2.1
  obtain ⟨e1, l1, i1⟩ := nI_rd (x := x) (M := 20) (by omega) (by omega)
  obtain ⟨e2, l2, i2⟩ := nI_rd (x := f 4) (M := 20) s4.1 s4.2
  exact ⟨x.toNatClampNeg, (f 4).toNatClampNeg, e1, by omega, by omega, e2, rfl⟩
theorem in_x {x M : Int32} {m : Nat} (hM : M.toInt = m) (h : 0 ≤ x) (h2 : x ≤ M) : ∃ k : Nat, k ≤ m ∧ x = nI k ∧ x.toNatClampNeg = k := by
  have a1 := Int32.le_iff_toInt_le.mp h
  have a2 := Int32.le_iff_toInt_le.mp h2
  have z : (0 : Int32).toInt = 0 := rfl
  obtain ⟨e1, l1, i1⟩ := nI_rd (x := x) (M := m) (by omega) (by omega)
  exact ⟨_, l1, e1, rfl⟩
def T_re (x : Int32) (f : Nat → Int32) : Int32 := if 1 ≤ x ∧ x ≤ 20 then (if f 5 = 1 ∧ f 11 = 0 then 0 else -5) else -2
def T_te (x : Int32) (f : Nat → Int32) : Int32 := if x = 0 ∨ x = 1 then (if f 5 = 1 ∧ f 11 = 0 then 0 else -5) else -2
def T_pu (f : Nat → Int32) : Int32 := if f 5 = 1 ∧ f 11 = 0 then 0 else -5
theorem re_0 {x : Int32} {f : Nat → Int32} (h : T_re x f = 0) : ∃ k : Nat, 1 ≤ k ∧ k ≤ 20 ∧ x = nI k ∧ x.toNatClampNeg = k ∧ f 5 = 1 ∧ f 11 = 0 := by
  unfold T_re at h
  by_cases a : 1 ≤ x ∧ x ≤ 20
  · rw [if_pos a] at h
    by_cases b : f 5 = 1 ∧ f 11 = 0
    · obtain ⟨k, h1, h2, h3⟩ := in_x (M := 20) (m := 20) rfl (show 0 ≤ x by have q := Int32.le_iff_toInt_le.mp a.1; rw [Int32.le_iff_toInt_le]; have : (1 : Int32).toInt = 1 := rfl; have : (0 : Int32).toInt = 0 := rfl; omega) a.2
      refine ⟨k, ?_, h1, h2, h3, b.1, b.2⟩
      cases k with
      | zero => rw [h2] at a; exact absurd a.1 (by decide)
      | succ k => omega
    · rw [if_neg b] at h; exact absurd h (by decide)
  · rw [if_neg a] at h; exact absurd h (by decide)
theorem te_0 {x : Int32} {f : Nat → Int32} (h : T_te x f = 0) : (x = 0 ∨ x = 1) ∧ f 5 = 1 ∧ f 11 = 0 := by
  unfold T_te at h
  by_cases a : x = 0 ∨ x = 1
  · rw [if_pos a] at h
    by_cases b : f 5 = 1 ∧ f 11 = 0
    · exact ⟨a, b⟩
    · rw [if_neg b] at h; exact absurd h (by decide)
  · rw [if_neg a] at h; exact absurd h (by decide)
theorem pu_0 {f : Nat → Int32} (h : T_pu f = 0) : f 5 = 1 ∧ f 11 = 0 := by
  unfold T_pu at h
  by_cases b : f 5 = 1 ∧ f 11 = 0
  · exact b
  · rw [if_neg b] at h; exact absurd h (by decide)
set_option maxRecDepth 20000 in
set_option maxHeartbeats 4000000 in
/-- part -/
theorem c_X7_part (l : Launch) (D : va_G) (Y : Nat → ClassId) (ad : Nat → Nat) (N : Nat) (hI : wI ad N) (C : Nat → va_E) (o : Nat) (hh : o + 170 ≤ N) (f : Nat → Int32) (hs : Nat → Nat → Int32) (kn : Nat) (sl : Nat → Nat → Int32) (sv : Nat → Int32) (pd : Nat → Int32) (n : Nat) (hA : clsA Y ad C o f hs kn sl sv pd n) (x kd v : Int32) (B : Int) (hok : okRow B f) (hBb : B + 2000 ≤ 900000000) : Met l yX7_part (wm yX7_part cX7_part 5 (some .int)) { frames := 4, cells := 0, slots := 0, locals := 88 } (wPc D Y ad N [.ref (ad o), .int (x), .int (kd), .int (v)] C) (wQi D ad N (fun r C' => ((T_pe x kd v f) = 0 → r = T_insert x.toNatClampNeg kd v f 4 ∧ clsA Y ad C' o (T_insert x.toNatClampNeg kd v f) (H_rec f hs kn) (K_rec kn) sl sv pd n ∧ ∀ j, j < o ∨ o + 170 ≤ j → C' j = C j) ∧ (¬ (T_pe x kd v f) = 0 → r = (T_pe x kd v f) ∧ C' = C))) 0 0 (wA ad N) := by
  obtain ⟨FF, GG, nx, fl, hc, hnx, hkn, hn80, h0, hhi, h7, h8, hv0, hv1⟩ := id hA
  have hnow : isState Y ad C (o + 1) f (GG 0) := by have q := hc.2.2.2.2.2.2.2 0 (by decide); rw [h0] at q; exact q
  have hz := hok.2.1
  refine wMet RX7 rfl (by decide +kernel) (Nat.le_of_ble_eq_true rfl) (lv := [(0, .ref (ad o)), (1, .int (x)), (2, .int (kd)), (3, .int (v))]) rfl ?_
  intro p e s m below meth c ls F hr hlocks hP hl
  have hS : va_S (wA ad N) s.heap s.heap [] := va_S.rf
  refine lv_aload_n F.1 F.2.1 dX7_part_0 rfl (lv_at hl 0 rfl) ?_
  refine gf_X7_10 F hP (by omega) hc.1 (v := .ref (ad (o + 1))) rfl dX7_part_1 ?_
  refine lv_iload_n F.1 F.2.1 dX7_part_4 rfl (lv_at hl 1 rfl) ?_
  refine lv_iload_n F.1 F.2.1 dX7_part_5 rfl (lv_at hl 2 rfl) ?_
  refine lv_iload_n F.1 F.2.1 dX7_part_6 rfl (lv_at hl 3 rfl) ?_
  refine w_calli F hP hS (c_X6_partError l D Y ad N hI _ (o + 1) (by omega) f (GG 0) hnow x kd v) (cwVm 3 F.2.2.2.2.1 (fun _ h => h) mw_196 mw_193 mw_194 mw_195 mw_15 rfl rfl ydX6_partError ⟨by decide, by decide⟩) (by omega) hnow.1 rfl rfl hl.1 rfl (Nat.le_of_ble_eq_true rfl) dX7_part_7 ⟨Nat.zero_le _, Nat.zero_le _⟩ (fun r C2 H locs hq hP hS => ?_)
  obtain ⟨hq1, hq2⟩ := hq; rw [hq1] at hP; subst hq2
  refine lv_istore (lv' := [(4, .int (T_pe x kd v f)), (0, .ref (ad o)), (1, .int (x)), (2, .int (kd)), (3, .int (v))]) F.1 F.2.1 dX7_part_10 hl (by decide) rfl (fun ls hl => ?_)
  refine lv_iload F.1 F.2.1 dX7_part_12 (lv_at hl 0 rfl) ?_
  refine lv_if_eq (tgt := 20) F.1 F.2.1 dX7_part_14 (by decide) (fun c1 => ?_) (fun c1 => ?_)
  · refine lv_aload_n F.1 F.2.1 dX7_part_20 rfl (lv_at hl 1 rfl) ?_
    refine gf_X7_19 F hP (by omega) hc.1 (v := .ref (ad (o + 19))) rfl dX7_part_21 ?_
    refine lv_aload_n F.1 F.2.1 dX7_part_24 rfl (lv_at hl 1 rfl) ?_
    refine gf_X7_10 F hP (by omega) hc.1 (v := .ref (ad (o + 1))) rfl dX7_part_25 ?_
    have hbe := bs_ring hnx
    have htg : isState Y ad C (o + 19 + 2 + 18 * nx) (FF (nx + 1)) (GG (nx + 1)) := by have q := hc.2.2.2.2.2.2.2 (nx + 1) (by omega); rw [hbe, show o + (21 + 18 * nx) = o + 19 + 2 + 18 * nx by omega] at q; exact q
    refine w_callv F hP hS (c_X0_record l D Y ad N hI _ (o + 19) (o + 1) (by omega) (by omega) (by omega) nx kn hnx hkn hc.2.1 f (FF (nx + 1)) (GG 0) (GG (nx + 1)) hnow htg hz) (cwVm 1 F.2.2.2.2.1 (fun _ h => h) mw_124 mw_121 mw_122 mw_123 mw_19 rfl rfl ydX0_record ⟨by decide, by decide⟩) (by omega) hc.2.1.1 rfl rfl hl.1 rfl (Nat.le_of_ble_eq_true rfl) dX7_part_28 ⟨Nat.zero_le _, Nat.zero_le _⟩ (fun K1 H locs hq1 hP hS => ?_)
    obtain ⟨hq1a, hq1b, hq1c⟩ := hq1
    have hc1 := cls_rec hnx hc hq1a hq1b hq1c
    have hnow1 : isState Y ad K1 (o + 1) f (GG 0) := isState_same hnow (fun j a z => hq1c j (by omega) (by omega))
    have fr1 : ∀ j, j < o ∨ o + 170 ≤ j → K1 j = C j := fun j hj => (hq1c j (by omega) (by omega)).trans ((fun _ _ => rfl) j hj)
    refine lv_aload_n F.1 F.2.1 dX7_part_31 rfl (lv_at hl 1 rfl) ?_
    refine gf_X7_10 F hP (by omega) hc1.1 (v := .ref (ad (o + 1))) rfl dX7_part_32 ?_
    refine lv_iload_n F.1 F.2.1 dX7_part_35 rfl (lv_at hl 2 rfl) ?_
    refine lv_iload_n F.1 F.2.1 dX7_part_36 rfl (lv_at hl 3 rfl) ?_
    refine lv_iload_n F.1 F.2.1 dX7_part_37 rfl (lv_at hl 4 rfl) ?_
    obtain ⟨kp, n4, ek, hk4, hn4, h4, hcl, hokp⟩ := pe_0 c1 hok.1
    refine w_calli F hP hS (c_X6_addPart l D Y ad N hI _ (o + 1) (by omega) f (GG 0) hnow1 kp n4 kd v hk4 hn4 h4 x ek) (cwVm 3 F.2.2.2.2.1 (fun _ h => h) mw_203 mw_200 mw_201 mw_202 mw_15 rfl rfl ydX6_addPart ⟨by decide, by decide⟩) (by omega) hnow1.1 rfl rfl hl.1 rfl (Nat.le_of_ble_eq_true rfl) dX7_part_38 ⟨Nat.zero_le _, Nat.zero_le _⟩ (fun r2 K2 H locs hq2 hP hS => ?_)
    obtain ⟨hq2r, hq2a, hq2c⟩ := hq2
    have hc2 := cls_st 0 (by decide) hc1 hq2a (fun j hj => hq2c j hj)
    have fr2 : ∀ j, j < o ∨ o + 170 ≤ j → K2 j = C j := fun j hj => (hq2c j (by omega)).trans (fr1 j hj)
    exact w_iret F hr hlocks hP hS dX7_part_41 ⟨fun _ => ⟨(by rw [hcl]; exact hq2r), (by rw [hcl]; exact (A_rec hnx hkn hn80 h0 hhi h7 h8 hv0 hv1 hc2)), fr2⟩, fun q => absurd c1 q⟩
  · refine lv_iload F.1 F.2.1 dX7_part_17 (lv_at hl 0 rfl) ?_
    exact w_iret F hr hlocks hP hS dX7_part_19 ⟨fun q => absurd q c1, fun _ => ⟨rfl, rfl⟩⟩
set_option maxRecDepth 20000 in
set_option maxHeartbeats 4000000 in
/-- takeAway -/
theorem c_X7_takeAway (l : Launch) (D : va_G) (Y : Nat → ClassId) (ad : Nat → Nat) (N : Nat) (hI : wI ad N) (C : Nat → va_E) (o : Nat) (hh : o + 170 ≤ N) (f : Nat → Int32) (hs : Nat → Nat → Int32) (kn : Nat) (sl : Nat → Nat → Int32) (sv : Nat → Int32) (pd : Nat → Int32) (n : Nat) (hA : clsA Y ad C o f hs kn sl sv pd n) (x : Int32) (B : Int) (hok : okRow B f) (hBb : B + 2000 ≤ 900000000) : Met l yX7_takeAway (wm yX7_takeAway cX7_takeAway 2 (some .int)) { frames := 4, cells := 0, slots := 0, locals := 88 } (wPc D Y ad N [.ref (ad o), .int (x)] C) (wQi D ad N (fun r C' => ((if 0 ≤ x ∧ x < f 4 ∧ x < 20 then (0 : Int32) else -1) = 0 → r = T_remove x.toNatClampNeg f 4 ∧ clsA Y ad C' o (T_remove x.toNatClampNeg f) (H_rec f hs kn) (K_rec kn) sl sv pd n ∧ ∀ j, j < o ∨ o + 170 ≤ j → C' j = C j) ∧ (¬ (if 0 ≤ x ∧ x < f 4 ∧ x < 20 then (0 : Int32) else -1) = 0 → r = (if 0 ≤ x ∧ x < f 4 ∧ x < 20 then (0 : Int32) else -1) ∧ C' = C))) 0 0 (wA ad N) := by
  obtain ⟨FF, GG, nx, fl, hc, hnx, hkn, hn80, h0, hhi, h7, h8, hv0, hv1⟩ := id hA
  have hnow : isState Y ad C (o + 1) f (GG 0) := by have q := hc.2.2.2.2.2.2.2 0 (by decide); rw [h0] at q; exact q
  have hz := hok.2.1
  refine wMet RX7 rfl (by decide +kernel) (Nat.le_of_ble_eq_true rfl) (lv := [(0, .ref (ad o)), (1, .int (x))]) rfl ?_
  intro p e s m below meth c ls F hr hlocks hP hl
  have hS : va_S (wA ad N) s.heap s.heap [] := va_S.rf
  refine lv_aload_n F.1 F.2.1 dX7_takeAway_0 rfl (lv_at hl 0 rfl) ?_
  refine gf_X7_10 F hP (by omega) hc.1 (v := .ref (ad (o + 1))) rfl dX7_takeAway_1 ?_
  refine gf_X7_70 F hP (by omega) hnow.1 (v := .ref (ad ((o + 1) + 3))) rfl dX7_takeAway_4 ?_
  refine lv_iload_n F.1 F.2.1 dX7_takeAway_7 rfl (lv_at hl 1 rfl) ?_
  refine w_calli F hP hS (c_X5_has l D Y ad N hI _ (o + 1 + 3) (by omega) _ _ hnow.2.2.1.1 x) (cwVm 1 F.2.2.2.2.1 (fun _ h => h) mw_234 mw_231 mw_232 mw_233 mw_42 rfl rfl ydX5_has ⟨by decide, by decide⟩) (by omega) hnow.2.2.1.1 rfl rfl hl.1 rfl (Nat.le_of_ble_eq_true rfl) dX7_takeAway_8 ⟨Nat.zero_le _, Nat.zero_le _⟩ (fun r C2 H locs hq hP hS => ?_)
  obtain ⟨hq1, hbrr1⟩ := hq; rw [hq1] at hP; generalize r = rr1 at hbrr1 ⊢
  refine lv_if_ne (tgt := 16) F.1 F.2.1 dX7_takeAway_11 (by decide) (fun c2 => ?_) (fun c2 => ?_)
  · refine lv_aload_n F.1 F.2.1 dX7_takeAway_16 rfl (lv_at hl 0 rfl) ?_
    refine gf_X7_19 F hP (by omega) hc.1 (v := .ref (ad (o + 19))) rfl dX7_takeAway_17 ?_
    refine lv_aload_n F.1 F.2.1 dX7_takeAway_20 rfl (lv_at hl 0 rfl) ?_
    refine gf_X7_10 F hP (by omega) hc.1 (v := .ref (ad (o + 1))) rfl dX7_takeAway_21 ?_
    have hbe := bs_ring hnx
    have htg : isState Y ad C (o + 19 + 2 + 18 * nx) (FF (nx + 1)) (GG (nx + 1)) := by have q := hc.2.2.2.2.2.2.2 (nx + 1) (by omega); rw [hbe, show o + (21 + 18 * nx) = o + 19 + 2 + 18 * nx by omega] at q; exact q
    refine w_callv F hP hS (c_X0_record l D Y ad N hI _ (o + 19) (o + 1) (by omega) (by omega) (by omega) nx kn hnx hkn hc.2.1 f (FF (nx + 1)) (GG 0) (GG (nx + 1)) hnow htg hz) (cwVm 1 F.2.2.2.2.1 (fun _ h => h) mw_124 mw_121 mw_122 mw_123 mw_19 rfl rfl ydX0_record ⟨by decide, by decide⟩) (by omega) hc.2.1.1 rfl rfl hl.1 rfl (Nat.le_of_ble_eq_true rfl) dX7_takeAway_24 ⟨Nat.zero_le _, Nat.zero_le _⟩ (fun K1 H locs hq1 hP hS => ?_)
    obtain ⟨hq1a, hq1b, hq1c⟩ := hq1
    have hc1 := cls_rec hnx hc hq1a hq1b hq1c
    have hnow1 : isState Y ad K1 (o + 1) f (GG 0) := isState_same hnow (fun j a z => hq1c j (by omega) (by omega))
    have fr1 : ∀ j, j < o ∨ o + 170 ≤ j → K1 j = C j := fun j hj => (hq1c j (by omega) (by omega)).trans ((fun _ _ => rfl) j hj)
    refine lv_aload_n F.1 F.2.1 dX7_takeAway_27 rfl (lv_at hl 0 rfl) ?_
    refine gf_X7_10 F hP (by omega) hc1.1 (v := .ref (ad (o + 1))) rfl dX7_takeAway_28 ?_
    refine lv_iload_n F.1 F.2.1 dX7_takeAway_31 rfl (lv_at hl 1 rfl) ?_
    obtain ⟨kp, n4, ek, hk4, hn4, h4, hcl⟩ := has_0 (b_t hbrr1 c2) hok.1
    refine w_calli F hP hS (c_X6_removePart l D Y ad N hI _ (o + 1) (by omega) f (GG 0) hnow1 kp n4 hk4 hn4 h4 x ek) (cwVm 1 F.2.2.2.2.1 (fun _ h => h) mw_238 mw_235 mw_236 mw_237 mw_15 rfl rfl ydX6_removePart ⟨by decide, by decide⟩) (by omega) hnow1.1 rfl rfl hl.1 rfl (Nat.le_of_ble_eq_true rfl) dX7_takeAway_32 ⟨Nat.zero_le _, Nat.zero_le _⟩ (fun r2 K2 H locs hq2 hP hS => ?_)
    obtain ⟨hq2r, hq2a, hq2c⟩ := hq2
    have hc2 := cls_st 0 (by decide) hc1 hq2a (fun j hj => hq2c j hj)
    have fr2 : ∀ j, j < o ∨ o + 170 ≤ j → K2 j = C j := fun j hj => (hq2c j (by omega)).trans (fr1 j hj)
    exact w_iret F hr hlocks hP hS dX7_takeAway_35 ⟨fun _ => ⟨(by rw [hcl]; exact hq2r), (by rw [hcl]; exact (A_rec hnx hkn hn80 h0 hhi h7 h8 hv0 hv1 hc2)), fr2⟩, fun q => absurd (if_pos (b_t hbrr1 c2)) q⟩
  · refine lv_iconst (v := (-1)) F.1 F.2.1 dX7_takeAway_14 (by decide) ?_
    exact w_iret F hr hlocks hP hS dX7_takeAway_15 ⟨fun q => absurd q (by rw [if_neg (b_f hbrr1 c2)]; decide), fun _ => ⟨(if_neg (b_f hbrr1 c2)).symm, rfl⟩⟩
set_option maxRecDepth 20000 in
set_option maxHeartbeats 4000000 in
/-- hoop -/
theorem c_X7_hoop (l : Launch) (D : va_G) (Y : Nat → ClassId) (ad : Nat → Nat) (N : Nat) (hI : wI ad N) (C : Nat → va_E) (o : Nat) (hh : o + 170 ≤ N) (f : Nat → Int32) (hs : Nat → Nat → Int32) (kn : Nat) (sl : Nat → Nat → Int32) (sv : Nat → Int32) (pd : Nat → Int32) (n : Nat) (hA : clsA Y ad C o f hs kn sl sv pd n) (x : Int32) (B : Int) (hok : okRow B f) (hBb : B + 2000 ≤ 900000000) : Met l yX7_hoop (wm yX7_hoop cX7_hoop 2 (some .int)) { frames := 4, cells := 0, slots := 0, locals := 88 } (wPc D Y ad N [.ref (ad o), .int (x)] C) (wQi D ad N (fun r C' => ((if 1 ≤ x ∧ x ≤ 60 then (0 : Int32) else -2) = 0 → r = f 14 + 1 ∧ clsA Y ad C' o (T_run x f) (H_rec f hs kn) (K_rec kn) sl sv pd n ∧ ∀ j, j < o ∨ o + 170 ≤ j → C' j = C j) ∧ (¬ (if 1 ≤ x ∧ x ≤ 60 then (0 : Int32) else -2) = 0 → r = (if 1 ≤ x ∧ x ≤ 60 then (0 : Int32) else -2) ∧ C' = C))) 0 0 (wA ad N) := by
  obtain ⟨FF, GG, nx, fl, hc, hnx, hkn, hn80, h0, hhi, h7, h8, hv0, hv1⟩ := id hA
  have hnow : isState Y ad C (o + 1) f (GG 0) := by have q := hc.2.2.2.2.2.2.2 0 (by decide); rw [h0] at q; exact q
  have hz := hok.2.1
  refine wMet RX7 rfl (by decide +kernel) (Nat.le_of_ble_eq_true rfl) (lv := [(0, .ref (ad o)), (1, .int (x))]) rfl ?_
  intro p e s m below meth c ls F hr hlocks hP hl
  have hS : va_S (wA ad N) s.heap s.heap [] := va_S.rf
  refine lv_iload_n F.1 F.2.1 dX7_hoop_0 rfl (lv_at hl 1 rfl) ?_
  refine w_calls F hP hS (c_X1_allows l D Y ad N hI _ x) (cwSm 1 F.2.2.2.2.1 (fun _ h => h) mw_258 mw_256 mw_257 mw_30 rfl rfl ydX1_allows ⟨by decide, by decide⟩) rfl hl.1 rfl (Nat.le_of_ble_eq_true rfl) dX7_hoop_1 ⟨Nat.zero_le _, Nat.zero_le _⟩ (fun r C2 H locs hq hP hS => ?_)
  obtain ⟨hq1, hbrr1⟩ := hq; rw [hq1] at hP; generalize r = rr1 at hbrr1 ⊢
  refine lv_if_ne (tgt := 10) F.1 F.2.1 dX7_hoop_4 (by decide) (fun c2 => ?_) (fun c2 => ?_)
  · refine lv_aload_n F.1 F.2.1 dX7_hoop_10 rfl (lv_at hl 0 rfl) ?_
    refine gf_X7_19 F hP (by omega) hc.1 (v := .ref (ad (o + 19))) rfl dX7_hoop_11 ?_
    refine lv_aload_n F.1 F.2.1 dX7_hoop_14 rfl (lv_at hl 0 rfl) ?_
    refine gf_X7_10 F hP (by omega) hc.1 (v := .ref (ad (o + 1))) rfl dX7_hoop_15 ?_
    have hbe := bs_ring hnx
    have htg : isState Y ad C (o + 19 + 2 + 18 * nx) (FF (nx + 1)) (GG (nx + 1)) := by have q := hc.2.2.2.2.2.2.2 (nx + 1) (by omega); rw [hbe, show o + (21 + 18 * nx) = o + 19 + 2 + 18 * nx by omega] at q; exact q
    refine w_callv F hP hS (c_X0_record l D Y ad N hI _ (o + 19) (o + 1) (by omega) (by omega) (by omega) nx kn hnx hkn hc.2.1 f (FF (nx + 1)) (GG 0) (GG (nx + 1)) hnow htg hz) (cwVm 1 F.2.2.2.2.1 (fun _ h => h) mw_124 mw_121 mw_122 mw_123 mw_19 rfl rfl ydX0_record ⟨by decide, by decide⟩) (by omega) hc.2.1.1 rfl rfl hl.1 rfl (Nat.le_of_ble_eq_true rfl) dX7_hoop_18 ⟨Nat.zero_le _, Nat.zero_le _⟩ (fun K1 H locs hq1 hP hS => ?_)
    obtain ⟨hq1a, hq1b, hq1c⟩ := hq1
    have hc1 := cls_rec hnx hc hq1a hq1b hq1c
    have hnow1 : isState Y ad K1 (o + 1) f (GG 0) := isState_same hnow (fun j a z => hq1c j (by omega) (by omega))
    have fr1 : ∀ j, j < o ∨ o + 170 ≤ j → K1 j = C j := fun j hj => (hq1c j (by omega) (by omega)).trans ((fun _ _ => rfl) j hj)
    refine lv_aload_n F.1 F.2.1 dX7_hoop_21 rfl (lv_at hl 0 rfl) ?_
    refine gf_X7_10 F hP (by omega) hc1.1 (v := .ref (ad (o + 1))) rfl dX7_hoop_22 ?_
    refine lv_iload_n F.1 F.2.1 dX7_hoop_25 rfl (lv_at hl 1 rfl) ?_
    refine w_calli F hP hS (c_X6_beginRun l D Y ad N hI _ (o + 1) (by omega) f (GG 0) hnow1 x) (cwVm 1 F.2.2.2.2.1 (fun _ h => h) mw_262 mw_259 mw_260 mw_261 mw_15 rfl rfl ydX6_beginRun ⟨by decide, by decide⟩) (by omega) hnow1.1 rfl rfl hl.1 rfl (Nat.le_of_ble_eq_true rfl) dX7_hoop_26 ⟨Nat.zero_le _, Nat.zero_le _⟩ (fun r2 K2 H locs hq2 hP hS => ?_)
    obtain ⟨hq2r, hq2a, hq2c⟩ := hq2
    have hc2 := cls_st 0 (by decide) hc1 hq2a (fun j hj => hq2c j hj)
    have fr2 : ∀ j, j < o ∨ o + 170 ≤ j → K2 j = C j := fun j hj => (hq2c j (by omega)).trans (fr1 j hj)
    exact w_iret F hr hlocks hP hS dX7_hoop_29 ⟨fun _ => ⟨hq2r, (A_rec hnx hkn hn80 h0 hhi h7 h8 hv0 hv1 hc2), fr2⟩, fun q => absurd (if_pos (b_t hbrr1 c2)) q⟩
  · refine lv_bipush (v := (-2)) F.1 F.2.1 dX7_hoop_7 (by decide) ?_
    exact w_iret F hr hlocks hP hS dX7_hoop_9 ⟨fun q => absurd q (by rw [if_neg (b_f hbrr1 c2)]; decide), fun _ => ⟨(if_neg (b_f hbrr1 c2)).symm, rfl⟩⟩
theorem step_g {f : Nat → Int32} {g g' : Int32} : (T_step f g).1 = (T_step f g').1 := by
  have e1 : ∀ k, (T_pass k f g).1 = (T_pass k f g').1 := fun k => by
    unfold T_pass
    by_cases a : (T_meet k f).2 = 0
    · rw [if_pos a, if_pos a]
      by_cases b : f 0 ≤ iabs ((T_meet k f).1 8)
      · rw [if_pos b, if_pos b]
      · rw [if_neg b, if_neg b]
    · rw [if_neg a, if_neg a]
  have e2 : ∀ k, (T_pass k f g).2.2 = (T_pass k f g').2.2 := fun k => by
    unfold T_pass
    by_cases a : (T_meet k f).2 = 0
    · rw [if_pos a, if_pos a]
      by_cases b : f 0 ≤ iabs ((T_meet k f).1 8)
      · rw [if_pos b, if_pos b]
      · rw [if_neg b, if_neg b]
    · rw [if_neg a, if_neg a]
  unfold T_step
  by_cases a : f 10 < f 4
  · rw [if_pos a, if_pos a, e2]
    by_cases b : (T_pass (f 10).toNatClampNeg f g').2.2 = 0
    · rw [if_pos b, if_pos b]
      by_cases c : f 10 + 1 < f 4
      · rw [if_pos c, if_pos c]; exact e1 _
      · rw [if_neg c, if_neg c]; show upd _ 11 4 = upd _ 11 4; rw [e1]
    · rw [if_neg b, if_neg b]; show upd _ 11 _ = upd _ 11 _; rw [e1]
  · rw [if_neg a, if_neg a]
theorem roll_g (n : Nat) : ∀ {f : Nat → Int32} {g g' : Int32}, (T_roll n f g).1 = (T_roll n f g').1 := by
  induction n with
  | zero => intro f g g'; rfl
  | succ n ih =>
    intro f g g'
    show (if f 11 = 0 then T_roll n (T_step f g).1 (T_step f g).2 else (f, g)).1 = (if f 11 = 0 then T_roll n (T_step f g').1 (T_step f g').2 else (f, g')).1
    by_cases h : f 11 = 0
    · rw [if_pos h, if_pos h, step_g (g' := g')]; exact ih
    · rw [if_neg h, if_neg h]
theorem rolled_g (n : Nat) {f : Nat → Int32} {g g' : Int32} : T_rolled n f g = T_rolled n f g' := by
  unfold T_rolled
  rw [roll_g n (g' := g')]
set_option maxRecDepth 20000 in
set_option maxHeartbeats 4000000 in
/-- roll -/
theorem c_X7_roll (l : Launch) (D : va_G) (Y : Nat → ClassId) (ad : Nat → Nat) (N : Nat) (hI : wI ad N) (C : Nat → va_E) (o : Nat) (hh : o + 170 ≤ N) (f : Nat → Int32) (hs : Nat → Nat → Int32) (kn : Nat) (sl : Nat → Nat → Int32) (sv : Nat → Int32) (pd : Nat → Int32) (n : Nat) (hA : clsA Y ad C o f hs kn sl sv pd n) (x : Int32) (B : Int) (hok : okRow B f) (hBb : B + 2000 ≤ 900000000) : Met l yX7_roll (wm yX7_roll cX7_roll 3 (some .int)) { frames := 6, cells := 0, slots := 0, locals := 129 } (wPc D Y ad N [.ref (ad o), .int (x)] C) (wQi D ad N (fun r C' => ((T_re x f) = 0 → r = T_rolled x.toNatClampNeg f 0 11 ∧ clsA Y ad C' o (T_rolled x.toNatClampNeg f 0) (H_rec f hs kn) (K_rec kn) sl sv pd n ∧ ∀ j, j < o ∨ o + 170 ≤ j → C' j = C j) ∧ (¬ (T_re x f) = 0 → r = (T_re x f) ∧ C' = C))) 0 0 (wA ad N) := by
  obtain ⟨FF, GG, nx, fl, hc, hnx, hkn, hn80, h0, hhi, h7, h8, hv0, hv1⟩ := id hA
  have hnow : isState Y ad C (o + 1) f (GG 0) := by have q := hc.2.2.2.2.2.2.2 0 (by decide); rw [h0] at q; exact q
  have hz := hok.2.1
  refine wMet RX7 rfl (by decide +kernel) (Nat.le_of_ble_eq_true rfl) (lv := [(0, .ref (ad o)), (1, .int (x))]) rfl ?_
  intro p e s m below meth c ls F hr hlocks hP hl
  have hS : va_S (wA ad N) s.heap s.heap [] := va_S.rf
  refine lv_aload_n F.1 F.2.1 dX7_roll_0 rfl (lv_at hl 0 rfl) ?_
  refine gf_X7_10 F hP (by omega) hc.1 (v := .ref (ad (o + 1))) rfl dX7_roll_1 ?_
  refine lv_iload_n F.1 F.2.1 dX7_roll_4 rfl (lv_at hl 1 rfl) ?_
  refine w_calli F hP hS (c_X6_rollError l D Y ad N hI _ (o + 1) (by omega) f (GG 0) hnow x hok.2.1) (cwVm 1 F.2.2.2.2.1 (fun _ h => h) mw_282 mw_279 mw_280 mw_281 mw_15 rfl rfl ydX6_rollError ⟨by decide, by decide⟩) (by omega) hnow.1 rfl rfl hl.1 rfl (Nat.le_of_ble_eq_true rfl) dX7_roll_5 ⟨Nat.zero_le _, Nat.zero_le _⟩ (fun r C2 H locs hq hP hS => ?_)
  obtain ⟨hq1, hq2⟩ := hq; rw [hq1] at hP; subst hq2
  refine lv_istore_n (lv' := [(2, .int (T_re x f)), (0, .ref (ad o)), (1, .int (x))]) F.1 F.2.1 dX7_roll_8 rfl hl (by decide) rfl (fun ls hl => ?_)
  refine lv_iload_n F.1 F.2.1 dX7_roll_9 rfl (lv_at hl 0 rfl) ?_
  refine lv_if_eq (tgt := 15) F.1 F.2.1 dX7_roll_10 (by decide) (fun c1 => ?_) (fun c1 => ?_)
  · refine lv_aload_n F.1 F.2.1 dX7_roll_15 rfl (lv_at hl 1 rfl) ?_
    refine gf_X7_19 F hP (by omega) hc.1 (v := .ref (ad (o + 19))) rfl dX7_roll_16 ?_
    refine lv_aload_n F.1 F.2.1 dX7_roll_19 rfl (lv_at hl 1 rfl) ?_
    refine gf_X7_10 F hP (by omega) hc.1 (v := .ref (ad (o + 1))) rfl dX7_roll_20 ?_
    have hbe := bs_ring hnx
    have htg : isState Y ad C (o + 19 + 2 + 18 * nx) (FF (nx + 1)) (GG (nx + 1)) := by have q := hc.2.2.2.2.2.2.2 (nx + 1) (by omega); rw [hbe, show o + (21 + 18 * nx) = o + 19 + 2 + 18 * nx by omega] at q; exact q
    refine w_callv F hP hS (c_X0_record l D Y ad N hI _ (o + 19) (o + 1) (by omega) (by omega) (by omega) nx kn hnx hkn hc.2.1 f (FF (nx + 1)) (GG 0) (GG (nx + 1)) hnow htg hz) (cwVm 1 F.2.2.2.2.1 (fun _ h => h) mw_124 mw_121 mw_122 mw_123 mw_19 rfl rfl ydX0_record ⟨by decide, by decide⟩) (by omega) hc.2.1.1 rfl rfl hl.1 rfl (Nat.le_of_ble_eq_true rfl) dX7_roll_23 ⟨Nat.zero_le _, Nat.zero_le _⟩ (fun K1 H locs hq1 hP hS => ?_)
    obtain ⟨hq1a, hq1b, hq1c⟩ := hq1
    have hc1 := cls_rec hnx hc hq1a hq1b hq1c
    have hnow1 : isState Y ad K1 (o + 1) f (GG 0) := isState_same hnow (fun j a z => hq1c j (by omega) (by omega))
    have fr1 : ∀ j, j < o ∨ o + 170 ≤ j → K1 j = C j := fun j hj => (hq1c j (by omega) (by omega)).trans ((fun _ _ => rfl) j hj)
    refine lv_aload_n F.1 F.2.1 dX7_roll_26 rfl (lv_at hl 1 rfl) ?_
    refine gf_X7_10 F hP (by omega) hc1.1 (v := .ref (ad (o + 1))) rfl dX7_roll_27 ?_
    refine lv_iload_n F.1 F.2.1 dX7_roll_30 rfl (lv_at hl 2 rfl) ?_
    obtain ⟨kp, hk1, hk20, ek, hcl, h5, h11⟩ := re_0 c1
    refine w_calli F hP hS (c_X6_rollOver l D Y ad N hI _ (o + 1) (by omega) f (GG 0) hnow1 B kp (by omega) (by omega) hok.1 (hok.2.2.1 h5) h5 h11 hok.2.2.2.1 hok.2.2.2.2 x ek) (cwVm 1 F.2.2.2.2.1 (fun _ h => h) mw_290 mw_287 mw_288 mw_289 mw_15 rfl rfl ydX6_rollOver ⟨by decide, by decide⟩) (by omega) hnow1.1 rfl rfl hl.1 rfl (Nat.le_of_ble_eq_true rfl) dX7_roll_31 ⟨Nat.zero_le _, Nat.zero_le _⟩ (fun r2 K2 H locs hq2 hP hS => ?_)
    obtain ⟨hq2r, hq2a, hq2c⟩ := hq2
    have hc2 := cls_st 0 (by decide) hc1 hq2a (fun j hj => hq2c j hj)
    have fr2 : ∀ j, j < o ∨ o + 170 ≤ j → K2 j = C j := fun j hj => (hq2c j (by omega)).trans (fr1 j hj)
    exact w_iret F hr hlocks hP hS dX7_roll_34 ⟨fun _ => ⟨(by rw [hcl, rolled_g kp (g' := GG 0)]; exact hq2r), (by rw [hcl, rolled_g kp (g' := GG 0)]; exact (A_rec hnx hkn hn80 h0 hhi h7 h8 hv0 hv1 hc2)), fr2⟩, fun q => absurd c1 q⟩
  · refine lv_iload_n F.1 F.2.1 dX7_roll_13 rfl (lv_at hl 0 rfl) ?_
    exact w_iret F hr hlocks hP hS dX7_roll_14 ⟨fun q => absurd q c1, fun _ => ⟨rfl, rfl⟩⟩
set_option maxRecDepth 20000 in
set_option maxHeartbeats 4000000 in
/-- tap -/
theorem c_X7_tap (l : Launch) (D : va_G) (Y : Nat → ClassId) (ad : Nat → Nat) (N : Nat) (hI : wI ad N) (C : Nat → va_E) (o : Nat) (hh : o + 170 ≤ N) (f : Nat → Int32) (hs : Nat → Nat → Int32) (kn : Nat) (sl : Nat → Nat → Int32) (sv : Nat → Int32) (pd : Nat → Int32) (n : Nat) (hA : clsA Y ad C o f hs kn sl sv pd n) (x : Int32) (B : Int) (hok : okRow B f) (hBb : B + 2000 ≤ 900000000) : Met l yX7_tap (wm yX7_tap cX7_tap 3 (some .int)) { frames := 4, cells := 0, slots := 0, locals := 88 } (wPc D Y ad N [.ref (ad o), .int (x)] C) (wQi D ad N (fun r C' => ((T_te x f) = 0 → r = T_tapp x f 8 + 500 ∧ clsA Y ad C' o (T_tapp x f) (H_rec f hs kn) (K_rec kn) sl sv pd n ∧ ∀ j, j < o ∨ o + 170 ≤ j → C' j = C j) ∧ (¬ (T_te x f) = 0 → r = (T_te x f) ∧ C' = C))) 0 0 (wA ad N) := by
  obtain ⟨FF, GG, nx, fl, hc, hnx, hkn, hn80, h0, hhi, h7, h8, hv0, hv1⟩ := id hA
  have hnow : isState Y ad C (o + 1) f (GG 0) := by have q := hc.2.2.2.2.2.2.2 0 (by decide); rw [h0] at q; exact q
  have hz := hok.2.1
  refine wMet RX7 rfl (by decide +kernel) (Nat.le_of_ble_eq_true rfl) (lv := [(0, .ref (ad o)), (1, .int (x))]) rfl ?_
  intro p e s m below meth c ls F hr hlocks hP hl
  have hS : va_S (wA ad N) s.heap s.heap [] := va_S.rf
  refine lv_aload_n F.1 F.2.1 dX7_tap_0 rfl (lv_at hl 0 rfl) ?_
  refine gf_X7_10 F hP (by omega) hc.1 (v := .ref (ad (o + 1))) rfl dX7_tap_1 ?_
  refine lv_iload_n F.1 F.2.1 dX7_tap_4 rfl (lv_at hl 1 rfl) ?_
  refine w_calli F hP hS (c_X6_tapError l D Y ad N hI _ (o + 1) (by omega) f (GG 0) hnow x hok.2.1) (cwVm 1 F.2.2.2.2.1 (fun _ h => h) mw_400 mw_397 mw_398 mw_399 mw_15 rfl rfl ydX6_tapError ⟨by decide, by decide⟩) (by omega) hnow.1 rfl rfl hl.1 rfl (Nat.le_of_ble_eq_true rfl) dX7_tap_5 ⟨Nat.zero_le _, Nat.zero_le _⟩ (fun r C2 H locs hq hP hS => ?_)
  obtain ⟨hq1, hq2⟩ := hq; rw [hq1] at hP; subst hq2
  refine lv_istore_n (lv' := [(2, .int (T_te x f)), (0, .ref (ad o)), (1, .int (x))]) F.1 F.2.1 dX7_tap_8 rfl hl (by decide) rfl (fun ls hl => ?_)
  refine lv_iload_n F.1 F.2.1 dX7_tap_9 rfl (lv_at hl 0 rfl) ?_
  refine lv_if_eq (tgt := 15) F.1 F.2.1 dX7_tap_10 (by decide) (fun c1 => ?_) (fun c1 => ?_)
  · refine lv_aload_n F.1 F.2.1 dX7_tap_15 rfl (lv_at hl 1 rfl) ?_
    refine gf_X7_19 F hP (by omega) hc.1 (v := .ref (ad (o + 19))) rfl dX7_tap_16 ?_
    refine lv_aload_n F.1 F.2.1 dX7_tap_19 rfl (lv_at hl 1 rfl) ?_
    refine gf_X7_10 F hP (by omega) hc.1 (v := .ref (ad (o + 1))) rfl dX7_tap_20 ?_
    have hbe := bs_ring hnx
    have htg : isState Y ad C (o + 19 + 2 + 18 * nx) (FF (nx + 1)) (GG (nx + 1)) := by have q := hc.2.2.2.2.2.2.2 (nx + 1) (by omega); rw [hbe, show o + (21 + 18 * nx) = o + 19 + 2 + 18 * nx by omega] at q; exact q
    refine w_callv F hP hS (c_X0_record l D Y ad N hI _ (o + 19) (o + 1) (by omega) (by omega) (by omega) nx kn hnx hkn hc.2.1 f (FF (nx + 1)) (GG 0) (GG (nx + 1)) hnow htg hz) (cwVm 1 F.2.2.2.2.1 (fun _ h => h) mw_124 mw_121 mw_122 mw_123 mw_19 rfl rfl ydX0_record ⟨by decide, by decide⟩) (by omega) hc.2.1.1 rfl rfl hl.1 rfl (Nat.le_of_ble_eq_true rfl) dX7_tap_23 ⟨Nat.zero_le _, Nat.zero_le _⟩ (fun K1 H locs hq1 hP hS => ?_)
    obtain ⟨hq1a, hq1b, hq1c⟩ := hq1
    have hc1 := cls_rec hnx hc hq1a hq1b hq1c
    have hnow1 : isState Y ad K1 (o + 1) f (GG 0) := isState_same hnow (fun j a z => hq1c j (by omega) (by omega))
    have fr1 : ∀ j, j < o ∨ o + 170 ≤ j → K1 j = C j := fun j hj => (hq1c j (by omega) (by omega)).trans ((fun _ _ => rfl) j hj)
    refine lv_aload_n F.1 F.2.1 dX7_tap_26 rfl (lv_at hl 1 rfl) ?_
    refine gf_X7_10 F hP (by omega) hc1.1 (v := .ref (ad (o + 1))) rfl dX7_tap_27 ?_
    refine lv_iload_n F.1 F.2.1 dX7_tap_30 rfl (lv_at hl 2 rfl) ?_
    refine w_calli F hP hS (c_X6_tapFrom l D Y ad N hI _ (o + 1) (by omega) f (GG 0) hnow1 x) (cwVm 1 F.2.2.2.2.1 (fun _ h => h) mw_404 mw_401 mw_402 mw_403 mw_15 rfl rfl ydX6_tapFrom ⟨by decide, by decide⟩) (by omega) hnow1.1 rfl rfl hl.1 rfl (Nat.le_of_ble_eq_true rfl) dX7_tap_31 ⟨Nat.zero_le _, Nat.zero_le _⟩ (fun r2 K2 H locs hq2 hP hS => ?_)
    obtain ⟨hq2r, hq2a, hq2c⟩ := hq2
    have hc2 := cls_st 0 (by decide) hc1 hq2a (fun j hj => hq2c j hj)
    have fr2 : ∀ j, j < o ∨ o + 170 ≤ j → K2 j = C j := fun j hj => (hq2c j (by omega)).trans (fr1 j hj)
    exact w_iret F hr hlocks hP hS dX7_tap_34 ⟨fun _ => ⟨hq2r, (A_rec hnx hkn hn80 h0 hhi h7 h8 hv0 hv1 hc2), fr2⟩, fun q => absurd c1 q⟩
  · refine lv_iload_n F.1 F.2.1 dX7_tap_13 rfl (lv_at hl 0 rfl) ?_
    exact w_iret F hr hlocks hP hS dX7_tap_14 ⟨fun q => absurd q c1, fun _ => ⟨rfl, rfl⟩⟩
set_option maxRecDepth 20000 in
set_option maxHeartbeats 4000000 in
/-- push -/
theorem c_X7_push (l : Launch) (D : va_G) (Y : Nat → ClassId) (ad : Nat → Nat) (N : Nat) (hI : wI ad N) (C : Nat → va_E) (o : Nat) (hh : o + 170 ≤ N) (f : Nat → Int32) (hs : Nat → Nat → Int32) (kn : Nat) (sl : Nat → Nat → Int32) (sv : Nat → Int32) (pd : Nat → Int32) (n : Nat) (hA : clsA Y ad C o f hs kn sl sv pd n) (B : Int) (hok : okRow B f) (hBb : B + 2000 ≤ 900000000) : Met l yX7_push (wm yX7_push cX7_push 2 (some .int)) { frames := 4, cells := 0, slots := 0, locals := 88 } (wPc D Y ad N [.ref (ad o)] C) (wQi D ad N (fun r C' => ((T_pu f) = 0 → r = T_push f 7 ∧ clsA Y ad C' o (T_push f) (H_rec f hs kn) (K_rec kn) sl sv pd n ∧ ∀ j, j < o ∨ o + 170 ≤ j → C' j = C j) ∧ (¬ (T_pu f) = 0 → r = (T_pu f) ∧ C' = C))) 0 0 (wA ad N) := by
  obtain ⟨FF, GG, nx, fl, hc, hnx, hkn, hn80, h0, hhi, h7, h8, hv0, hv1⟩ := id hA
  have hnow : isState Y ad C (o + 1) f (GG 0) := by have q := hc.2.2.2.2.2.2.2 0 (by decide); rw [h0] at q; exact q
  have hz := hok.2.1
  refine wMet RX7 rfl (by decide +kernel) (Nat.le_of_ble_eq_true rfl) (lv := [(0, .ref (ad o))]) rfl ?_
  intro p e s m below meth c ls F hr hlocks hP hl
  have hS : va_S (wA ad N) s.heap s.heap [] := va_S.rf
  refine lv_aload_n F.1 F.2.1 dX7_push_0 rfl (lv_at hl 0 rfl) ?_
  refine gf_X7_10 F hP (by omega) hc.1 (v := .ref (ad (o + 1))) rfl dX7_push_1 ?_
  refine w_calli F hP hS (c_X6_pushError l D Y ad N hI _ (o + 1) (by omega) f (GG 0) hnow hok.2.1) (cwVm 0 F.2.2.2.2.1 (fun _ h => h) mw_425 mw_422 mw_423 mw_424 mw_15 rfl rfl ydX6_pushError ⟨by decide, by decide⟩) (by omega) hnow.1 rfl rfl hl.1 rfl (Nat.le_of_ble_eq_true rfl) dX7_push_4 ⟨Nat.zero_le _, Nat.zero_le _⟩ (fun r C2 H locs hq hP hS => ?_)
  obtain ⟨hq1, hq2⟩ := hq; rw [hq1] at hP; subst hq2
  refine lv_istore_n (lv' := [(1, .int (T_pu f)), (0, .ref (ad o))]) F.1 F.2.1 dX7_push_7 rfl hl (by decide) rfl (fun ls hl => ?_)
  refine lv_iload_n F.1 F.2.1 dX7_push_8 rfl (lv_at hl 0 rfl) ?_
  refine lv_if_eq (tgt := 14) F.1 F.2.1 dX7_push_9 (by decide) (fun c1 => ?_) (fun c1 => ?_)
  · refine lv_aload_n F.1 F.2.1 dX7_push_14 rfl (lv_at hl 1 rfl) ?_
    refine gf_X7_19 F hP (by omega) hc.1 (v := .ref (ad (o + 19))) rfl dX7_push_15 ?_
    refine lv_aload_n F.1 F.2.1 dX7_push_18 rfl (lv_at hl 1 rfl) ?_
    refine gf_X7_10 F hP (by omega) hc.1 (v := .ref (ad (o + 1))) rfl dX7_push_19 ?_
    have hbe := bs_ring hnx
    have htg : isState Y ad C (o + 19 + 2 + 18 * nx) (FF (nx + 1)) (GG (nx + 1)) := by have q := hc.2.2.2.2.2.2.2 (nx + 1) (by omega); rw [hbe, show o + (21 + 18 * nx) = o + 19 + 2 + 18 * nx by omega] at q; exact q
    refine w_callv F hP hS (c_X0_record l D Y ad N hI _ (o + 19) (o + 1) (by omega) (by omega) (by omega) nx kn hnx hkn hc.2.1 f (FF (nx + 1)) (GG 0) (GG (nx + 1)) hnow htg hz) (cwVm 1 F.2.2.2.2.1 (fun _ h => h) mw_124 mw_121 mw_122 mw_123 mw_19 rfl rfl ydX0_record ⟨by decide, by decide⟩) (by omega) hc.2.1.1 rfl rfl hl.1 rfl (Nat.le_of_ble_eq_true rfl) dX7_push_22 ⟨Nat.zero_le _, Nat.zero_le _⟩ (fun K1 H locs hq1 hP hS => ?_)
    obtain ⟨hq1a, hq1b, hq1c⟩ := hq1
    have hc1 := cls_rec hnx hc hq1a hq1b hq1c
    have hnow1 : isState Y ad K1 (o + 1) f (GG 0) := isState_same hnow (fun j a z => hq1c j (by omega) (by omega))
    have fr1 : ∀ j, j < o ∨ o + 170 ≤ j → K1 j = C j := fun j hj => (hq1c j (by omega) (by omega)).trans ((fun _ _ => rfl) j hj)
    refine lv_aload_n F.1 F.2.1 dX7_push_25 rfl (lv_at hl 1 rfl) ?_
    refine gf_X7_10 F hP (by omega) hc1.1 (v := .ref (ad (o + 1))) rfl dX7_push_26 ?_
    refine w_calli F hP hS (c_X6_pushOn l D Y ad N hI _ (o + 1) (by omega) f (GG 0) hnow1 ) (cwVm 0 F.2.2.2.2.1 (fun _ h => h) mw_429 mw_426 mw_427 mw_428 mw_15 rfl rfl ydX6_pushOn ⟨by decide, by decide⟩) (by omega) hnow1.1 rfl rfl hl.1 rfl (Nat.le_of_ble_eq_true rfl) dX7_push_29 ⟨Nat.zero_le _, Nat.zero_le _⟩ (fun r2 K2 H locs hq2 hP hS => ?_)
    obtain ⟨hq2r, hq2a, hq2c⟩ := hq2
    have hc2 := cls_st 0 (by decide) hc1 hq2a (fun j hj => hq2c j hj)
    have fr2 : ∀ j, j < o ∨ o + 170 ≤ j → K2 j = C j := fun j hj => (hq2c j (by omega)).trans (fr1 j hj)
    exact w_iret F hr hlocks hP hS dX7_push_32 ⟨fun _ => ⟨hq2r, (A_rec hnx hkn hn80 h0 hhi h7 h8 hv0 hv1 hc2), fr2⟩, fun q => absurd c1 q⟩
  · refine lv_iload_n F.1 F.2.1 dX7_push_12 rfl (lv_at hl 0 rfl) ?_
    exact w_iret F hr hlocks hP hS dX7_push_13 ⟨fun q => absurd q c1, fun _ => ⟨rfl, rfl⟩⟩

