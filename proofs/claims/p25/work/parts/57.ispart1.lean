/-! p25: isPart: one part, as it was told -/
/-- the class at place 0, some eight numbers at place 170 -/
def kLT (Y : Nat → ClassId) (ad : Nat → Nat) (C : Nat → va_E) (f : Nat → Int32) (sl : Nat → Nat → Int32) (sv : Nat → Int32) : Prop := kLS Y ad C f sl sv ∧ ∃ hv : Nat → Int32, C 170 = .inl (Y 0, 8, .inl hv)
theorem re_add (x : Int32) : x + 500 - 500 = x := by rw [Int32.add_sub_cancel]
theorem mn_hi {x : Int32} (h : 99 < x) : 99 = mn99 x := (if_neg (i_nlt (Int32.le_of_lt h))).symm
theorem mn_lo {x : Int32} (h : ¬ 99 < x) : x = mn99 x := by
  unfold mn99
  by_cases k : x < 99
  · rw [if_pos k]
  · rw [if_neg k]
    rw [Int32.lt_iff_toInt_lt] at h k
    exact Int32.toInt_inj.mp (by omega)
theorem slow_hi {v d : Int32} (h : d < v) : v - d = slow v d := (if_neg (i_nlt (Int32.le_of_lt h))).symm
theorem slow_lo {v d : Int32} (h : ¬ d < v) : 0 = slow v d := by
  unfold slow
  by_cases k : v < d
  · rw [if_pos k]
  · rw [if_neg k]
    rw [Int32.lt_iff_toInt_lt] at h k
    have e : v = d := Int32.toInt_inj.mp (by omega)
    rw [e, Int32.sub_self]
/-- what a roll over one part leaves, for each way it goes -/
theorem ip_facts {B : Int} {f : Nat → Int32} {k n : Nat} (hok : okRow B f) (hB : B + 25 ≤ 900000000) (h5 : f 5 = 1) (h11 : f 11 = 0) (h10 : f 10 = nI k) (h4 : f 4 = nI n) (hkn : k < n) (hn : n ≤ 20) {g1 : Nat → Int32} (eg : T_rolled 1 f 0 = g1) :
    g1 4 = nI n ∧ g1 5 = 1 ∧ g1 6 = f 6 ∧ g1 12 = f 12 ∧ g1 13 = f 13 ∧ g1 7 = (T_meet k f).1 7 ∧ g1 8 = (T_meet k f).1 8 ∧ g1 9 = (T_meet k f).1 9 ∧ g1 11 = T_hw f k ∧ g1 10 = (if T_hw f k = 0 ∨ T_hw f k = 4 then nI (k + 1) else nI k) := by
  obtain ⟨s1, s2, s3, s4⟩ := step_at (g := 0) h10 h4 hkn hn h11
  have a := (rolled1_ag hok hB h5 h11).1
  rw [eg] at a
  have mf : ∀ q, q ≠ 7 → q ≠ 8 → q ≠ 9 → (T_meet k f).1 q = f q := fun q a b c => T_meet_fr a b c
  refine ⟨?_, ?_, ?_, ?_, ?_, ?_, ?_, ?_, ?_, ?_⟩
  · rw [a 4 (by decide), s2 4 (by decide) (by decide), mf 4 (by decide) (by decide) (by decide), h4]
  · rw [a 5 (by decide), s2 5 (by decide) (by decide), mf 5 (by decide) (by decide) (by decide), h5]
  · rw [a 6 (by decide), s2 6 (by decide) (by decide), mf 6 (by decide) (by decide) (by decide)]
  · rw [a 12 (by decide), s2 12 (by decide) (by decide), mf 12 (by decide) (by decide) (by decide)]
  · rw [a 13 (by decide), s2 13 (by decide) (by decide), mf 13 (by decide) (by decide) (by decide)]
  · rw [a 7 (by decide), s2 7 (by decide) (by decide)]
  · rw [a 8 (by decide), s2 8 (by decide) (by decide)]
  · rw [a 9 (by decide), s2 9 (by decide) (by decide)]
  · rw [a 11 (by decide), s1]
  · rw [a 10 (by decide), s3, h10, nI_succ]
/-- .. and where it ends -/
theorem ip_end {B : Int} {f : Nat → Int32} {k n : Nat} (hok : okRow B f) (hB : B + 25 ≤ 900000000) (h5 : f 5 = 1) (h11 : f 11 = 0) (h10 : f 10 = nI k) (h4 : f 4 = nI n) (hkn : k < n) (hn : n ≤ 20) {g1 : Nat → Int32} (eg : T_rolled 1 f 0 = g1) {w : Nat} (hw : T_hw f k = nI w) (h1 : 1 ≤ w) (hw4 : w ≤ 4) :
    g1 (14 + w) = f (14 + w) + 1 ∧ 0 < (g1 20).toInt ∧ g1 21 = f 6 ∧ g1 22 = nI w ∧ g1 23 = g1 10 ∧ g1 24 = f 12 ∧ (w < 4 → g1 (62 + 5 * k + w) = f (62 + 5 * k + w) + 1) := by
  obtain ⟨s1, s2, s3, s4⟩ := step_at (g := 0) h10 h4 hkn hn h11
  have mf : ∀ q, q ≠ 7 → q ≠ 8 → q ≠ 9 → (T_meet k f).1 q = f q := fun q a b c => T_meet_fr a b c
  have fr : ∀ q, q ≠ 7 → q ≠ 8 → q ≠ 9 → q ≠ 10 → q ≠ 11 → (T_step f 0).1 q = f q := fun q a b c d e => T_step_fr a b c d e
  have n0 : ¬ T_hw f k = 0 := by rw [hw]; exact nI_n0 (by omega) (by omega)
  obtain ⟨f1, ef1⟩ : ∃ z, z = (T_step f 0).1 := ⟨_, rfl⟩
  rw [← ef1] at s1 s3 fr
  have p20 : 0 < (f1 20 + (if f1 20 < 10 then 1 else 0)).toInt := by
    have q := hok.2.2.2
    have o : (1 : Int32).toInt = 1 := rfl
    have t : (10 : Int32).toInt = 10 := rfl
    rw [fr 20 (by decide) (by decide) (by decide) (by decide) (by decide)]
    by_cases z : f 20 < 10
    · rw [if_pos z, i_add (by omega) (by omega)]; omega
    · rw [if_neg z, Int32.add_zero]
      rw [Int32.lt_iff_toInt_lt] at z
      omega
  rcases rolled1 hok hB h5 h11 with ⟨r0, r1⟩ | ⟨r0, rE, r1⟩
  · rw [← ef1, s1] at r0; exact absurd r0 n0
  · rw [← ef1] at r0 rE r1
    rw [eg] at r1
    rcases rE with e4 | ⟨k2, we, g1', g2, g3, g4, g5, g6⟩
    · have ew : w = 4 := by
        have q := s1.symm.trans e4
        rw [hw] at q
        exact (nI_eq (a := w) (b := 4) (by omega) (by decide)).mp q
      subst ew
      obtain ⟨p1, p2, p3, p4, p5, p6, p7, p8, p9⟩ := passed_at e4
      rw [r1]
      refine ⟨?_, by rw [p3]; exact p20, ?_, by rw [p5, e4]; rfl, by rw [p6, p1 10 (by decide)], ?_, fun q => absurd q (by decide)⟩
      · rw [show 14 + 4 = 18 from rfl, p2, fr 18 (by decide) (by decide) (by decide) (by decide) (by decide)]
      · rw [p4, fr 6 (by decide) (by decide) (by decide) (by decide) (by decide)]
      · rw [p7, fr 12 (by decide) (by decide) (by decide) (by decide) (by decide)]
    · have ew : we = w := by
        have q := s1.symm.trans g6
        rw [hw] at q
        exact ((nI_eq (a := w) (b := we) (by omega) (by omega)).mp q).symm
      subst ew
      have ek : k2 = k := by
        rw [if_neg (by rw [hw]; intro z; rcases z with z | z; exact nI_n0 (by omega) (by omega) z; have := (nI_eq (a := we) (b := 4) (by omega) (by decide)).mp z; omega), h10] at s3
        exact (nI_eq (by omega) (by omega)).mp (g5.symm.trans s3)
      subst ek
      obtain ⟨p1, p14, pw, p3, p4, p5, p6, p7, p8, p9⟩ := ends_at g5 g6 g1' g3 g4
      rw [r1]
      refine ⟨?_, by rw [p3]; exact p20, ?_, by rw [p5, g6], by rw [p6, p1 10 (by decide)], ?_, fun _ => ?_⟩
      · rw [pw (14 + we) (by omega), upd_s, fr (14 + we) (by omega) (by omega) (by omega) (by omega) (by omega)]
      · rw [p4, fr 6 (by decide) (by decide) (by decide) (by decide) (by decide)]
      · rw [p7, fr 12 (by decide) (by decide) (by decide) (by decide) (by decide)]
      · rw [p9 _ (by omega), upd_s, fr _ (by omega) (by omega) (by omega) (by omega) (by omega)]
set_option maxRecDepth 20000 in
set_option maxHeartbeats 4000000 in
theorem ip_tail_0 {p : Program} {l : Launch} {e : Env} {s : State} {m : MethodId} {below : List Frame} {meth : Method} {c : Code} {args : Array Value} {D : va_G} {Y : Nat → ClassId} {ad : Nat → Nat} {N : Nat} (hI : wI ad N) (hN : 171 ≤ N) (F : wFix p s m c args cL_isPart RL 11 D Y ad N) (hr : meth.sig.returnType = some .boolean) (hlocks : meth.locks = false) {C : Nat → va_E} {f : Nat → Int32} {sl : Nat → Nat → Int32} {sv : Nat → Int32} {hv : Nat → Int32} {B : Int} {H : Heap} {locs : List Loc} (hP : wP D ad N C H) (hS : va_S (wA ad N) s.heap H locs) (hL : kLS Y ad C f sl sv) (hH : C 170 = .inl (Y 0, 8, .inl hv)) (hok : okRow B f) (hB0 : 0 ≤ B) (hB : B + 5000 ≤ 900000000) (h5 : f 5 = 1) (h11 : f 11 = 0) {k n : Nat} (h10 : f 10 = nI k) (h4 : f 4 = nI n) (hkn : k < n) (hn : n ≤ 20) {kd : Int32} {g1 : Nat → Int32} (eg : T_rolled 1 f 0 = g1) (hw : T_hw f k = 0) (hv_0 : hv 0 = f 6) (hv_1 : hv 1 = g1 7) (hv_3 : hv 3 = g1 9) (hv_6 : hv 6 = f 12) (hv_7 : hv 7 = f 13) {ls : Array Slot} (hl : lv_has ls 11 [(6, .int 0), (5, .int (valAt f k)), (4, .int kd), (3, .int (nI k)), (2, .int (g1 8)), (1, .ref (ad 170)), (0, .ref (ad 0))]) : W p l e { frames := 7, cells := 0, slots := 0, locals := 151 } s m args below meth c H locs 0 0 (MQ below (wQi D ad N (fun r C' => r = 1 ∧ kLT Y ad C' g1 sl sv)) args s 0 0 (wA ad N)) (F0 m 330 ls []) := by
  obtain ⟨hg4, hg5, hg6, hg12, hg13, -, -, -, hg11, hg10⟩ := ip_facts hok (by omega) h5 h11 h10 h4 hkn hn eg
  rw [hw] at hg11 hg10
  have hg10 : g1 10 = nI (k + 1) := hg10.trans (if_pos (by decide))
  have okg : okRow (B + 25) g1 := by rw [← eg]; exact okRow_roll (g := 0) 1 (by omega) hok h5 h11
  refine lv_iload F.1 F.2.1 dL_isPart_330 (lv_at hl 0 rfl) ?_
  refine lv_if_le (tgt := 345) F.1 F.2.1 dL_isPart_332 (by decide) (fun c1 => ?_) (fun c1 => False.elim (by revert c1; decide))
  refine lv_iload_n F.1 F.2.1 dL_isPart_345 rfl (lv_at hl 3 rfl) ?_
  refine lv_iconst (v := 1) F.1 F.2.1 dL_isPart_346 (by decide) ?_
  refine lv_iadd F.1 F.2.1 dL_isPart_347 ?_
  refine lv_topi (fun v2 ev2 => ?_)
  have ev2 : v2 = nI (k + 1) := ev2.trans (nI_succ k).symm
  subst ev2
  refine lv_istore (lv' := [(7, .int (nI (k + 1))), (6, .int (0)), (5, .int (valAt f k)), (4, .int (kd)), (3, .int (nI k)), (2, .int (g1 8)), (1, .ref (ad 170)), (0, .ref (ad 0))]) F.1 F.2.1 dL_isPart_348 hl (by decide) rfl (fun ls hl => ?_)
  refine lv_iload F.1 F.2.1 dL_isPart_350 (lv_at hl 1 rfl) ?_
  refine lv_if_ne (tgt := 359) F.1 F.2.1 dL_isPart_352 (by decide) (fun c3 => False.elim (by revert c3; decide)) (fun c3 => ?_)
  refine lv_iconst (v := 0) F.1 F.2.1 dL_isPart_355 (by decide) ?_
  refine lv_goto (tgt := 367) F.1 F.2.1 dL_isPart_356 (by decide) ?_
  refine lv_istore (lv' := [(8, .int (0)), (7, .int (nI (k + 1))), (6, .int (0)), (5, .int (valAt f k)), (4, .int (kd)), (3, .int (nI k)), (2, .int (g1 8)), (1, .ref (ad 170)), (0, .ref (ad 0))]) F.1 F.2.1 dL_isPart_367 hl (by decide) rfl (fun ls hl => ?_)
  refine lv_iload F.1 F.2.1 dL_isPart_369 (lv_at hl 2 rfl) ?_
  refine lv_if_eq (tgt := 380) F.1 F.2.1 dL_isPart_371 (by decide) (fun c4 => ?_) (fun c4 => False.elim (by revert c4; decide))
  refine lv_iconst (v := 0) F.1 F.2.1 dL_isPart_380 (by decide) ?_
  refine lv_goto (tgt := 393) F.1 F.2.1 dL_isPart_381 (by decide) ?_
  refine lv_istore (lv' := [(9, .int (0)), (8, .int (0)), (7, .int (nI (k + 1))), (6, .int (0)), (5, .int (valAt f k)), (4, .int (kd)), (3, .int (nI k)), (2, .int (g1 8)), (1, .ref (ad 170)), (0, .ref (ad 0))]) F.1 F.2.1 dL_isPart_393 hl (by decide) rfl (fun ls hl => ?_)
  refine lv_aload_n F.1 F.2.1 dL_isPart_395 rfl (lv_at hl 9 rfl) ?_
  refine lv_iconst (v := 1) F.1 F.2.1 dL_isPart_396 (by decide) ?_
  refine w_calli F hP hS (k_roll l D Y ad N hI hN _ hL h5 h11 hok (by omega) hB0) (cwVm 1 F.2.2.2.2.1 (fun _ h => h) mw_278 mw_720 mw_276 mw_277 mw_2 rfl rfl ydX7_roll ⟨by decide, by decide⟩) (by omega) (ls_at hL) rfl rfl hl.1 rfl (Nat.le_of_ble_eq_true rfl) dL_isPart_397 ⟨Nat.zero_le _, Nat.zero_le _⟩ (fun r1 C1 H locs hq hP hS => ?_)
  obtain ⟨hr1, hL1, hz1⟩ := hq
  have hH1 := hz1.trans hH
  have hr1 := hr1.trans (show T_rolled 1 f 0 11 = 0 by rw [eg]; exact hg11)
  subst hr1
  rw [eg] at hL1
  refine lv_iload F.1 F.2.1 dL_isPart_400 (lv_at hl 3 rfl) ?_
  refine lv_icmp_ne (tgt := 501) F.1 F.2.1 dL_isPart_402 (by decide) (fun c5 => False.elim (c5 rfl)) (fun c5 => ?_)
  refine lv_aload_n F.1 F.2.1 dL_isPart_405 rfl (lv_at hl 9 rfl) ?_
  refine lv_iconst (v := 0) F.1 F.2.1 dL_isPart_406 (by decide) ?_
  refine w_calli F hP hS (k_ofHoop l D Y ad N hI hN _ hL1 0) (cwVm 1 F.2.2.2.2.1 (fun _ h => h) mw_454 mw_719 mw_452 mw_453 mw_2 rfl rfl ydX7_ofHoop ⟨by decide, by decide⟩) (by omega) (ls_at hL1) rfl rfl hl.1 rfl (Nat.le_of_ble_eq_true rfl) dL_isPart_407 ⟨Nat.zero_le _, Nat.zero_le _⟩ (fun r2 C2 H locs hq hP hS => ?_)
  obtain ⟨hw2, hr2⟩ := hq; rw [hw2] at hP
  have hr2 := hr2.trans ((oh_0 hg5).trans hg6)
  subst hr2
  refine lv_aload_n F.1 F.2.1 dL_isPart_410 rfl (lv_at hl 8 rfl) ?_
  refine lv_iconst (v := 0) F.1 F.2.1 dL_isPart_411 (by decide) ?_
  refine w_iald F hP (by omega) hH1 (k := 0) rfl (by decide) (Nat.le_of_ble_eq_true rfl) (v := f 6) hv_0 dL_isPart_412 ?_
  refine lv_icmp_ne (tgt := 501) F.1 F.2.1 dL_isPart_413 (by decide) (fun c6 => False.elim (c6 rfl)) (fun c6 => ?_)
  refine lv_aload_n F.1 F.2.1 dL_isPart_416 rfl (lv_at hl 9 rfl) ?_
  refine lv_iconst (v := 1) F.1 F.2.1 dL_isPart_417 (by decide) ?_
  refine w_calli F hP hS (k_ofHoop l D Y ad N hI hN _ hL1 1) (cwVm 1 F.2.2.2.2.1 (fun _ h => h) mw_454 mw_719 mw_452 mw_453 mw_2 rfl rfl ydX7_ofHoop ⟨by decide, by decide⟩) (by omega) (ls_at hL1) rfl rfl hl.1 rfl (Nat.le_of_ble_eq_true rfl) dL_isPart_418 ⟨Nat.zero_le _, Nat.zero_le _⟩ (fun r3 C2 H locs hq hP hS => ?_)
  obtain ⟨hw3, hr3⟩ := hq; rw [hw3] at hP
  have hr3 := hr3.trans (oh_1 hg5)
  subst hr3
  refine lv_aload_n F.1 F.2.1 dL_isPart_421 rfl (lv_at hl 8 rfl) ?_
  refine lv_iconst (v := 1) F.1 F.2.1 dL_isPart_422 (by decide) ?_
  refine w_iald F hP (by omega) hH1 (k := 1) rfl (by decide) (Nat.le_of_ble_eq_true rfl) (v := g1 7) hv_1 dL_isPart_423 ?_
  refine lv_icmp_ne (tgt := 501) F.1 F.2.1 dL_isPart_424 (by decide) (fun c7 => False.elim (c7 rfl)) (fun c7 => ?_)
  refine lv_aload_n F.1 F.2.1 dL_isPart_427 rfl (lv_at hl 9 rfl) ?_
  refine lv_iconst (v := 2) F.1 F.2.1 dL_isPart_428 (by decide) ?_
  refine w_calli F hP hS (k_ofHoop l D Y ad N hI hN _ hL1 2) (cwVm 1 F.2.2.2.2.1 (fun _ h => h) mw_454 mw_719 mw_452 mw_453 mw_2 rfl rfl ydX7_ofHoop ⟨by decide, by decide⟩) (by omega) (ls_at hL1) rfl rfl hl.1 rfl (Nat.le_of_ble_eq_true rfl) dL_isPart_429 ⟨Nat.zero_le _, Nat.zero_le _⟩ (fun r4 C2 H locs hq hP hS => ?_)
  obtain ⟨hw4, hr4⟩ := hq; rw [hw4] at hP
  have hr4 := hr4.trans (oh_2 hg5)
  subst hr4
  refine lv_iload_n F.1 F.2.1 dL_isPart_432 rfl (lv_at hl 7 rfl) ?_
  refine lv_sipush (v := 500) F.1 F.2.1 dL_isPart_433 (by decide) ?_
  refine lv_iadd F.1 F.2.1 dL_isPart_436 ?_
  refine lv_icmp_ne (tgt := 501) F.1 F.2.1 dL_isPart_437 (by decide) (fun c8 => False.elim (c8 rfl)) (fun c8 => ?_)
  refine lv_aload_n F.1 F.2.1 dL_isPart_440 rfl (lv_at hl 9 rfl) ?_
  refine lv_iconst (v := 3) F.1 F.2.1 dL_isPart_441 (by decide) ?_
  refine w_calli F hP hS (k_ofHoop l D Y ad N hI hN _ hL1 3) (cwVm 1 F.2.2.2.2.1 (fun _ h => h) mw_454 mw_719 mw_452 mw_453 mw_2 rfl rfl ydX7_ofHoop ⟨by decide, by decide⟩) (by omega) (ls_at hL1) rfl rfl hl.1 rfl (Nat.le_of_ble_eq_true rfl) dL_isPart_442 ⟨Nat.zero_le _, Nat.zero_le _⟩ (fun r5 C2 H locs hq hP hS => ?_)
  obtain ⟨hw5, hr5⟩ := hq; rw [hw5] at hP
  have hr5 := hr5.trans (oh_3 hg5)
  subst hr5
  refine lv_aload_n F.1 F.2.1 dL_isPart_445 rfl (lv_at hl 8 rfl) ?_
  refine lv_iconst (v := 3) F.1 F.2.1 dL_isPart_446 (by decide) ?_
  refine w_iald F hP (by omega) hH1 (k := 3) rfl (by decide) (Nat.le_of_ble_eq_true rfl) (v := g1 9) hv_3 dL_isPart_447 ?_
  refine lv_icmp_ne (tgt := 501) F.1 F.2.1 dL_isPart_448 (by decide) (fun c9 => False.elim (c9 rfl)) (fun c9 => ?_)
  refine lv_aload_n F.1 F.2.1 dL_isPart_451 rfl (lv_at hl 9 rfl) ?_
  refine lv_iconst (v := 4) F.1 F.2.1 dL_isPart_452 (by decide) ?_
  refine w_calli F hP hS (k_ofHoop l D Y ad N hI hN _ hL1 4) (cwVm 1 F.2.2.2.2.1 (fun _ h => h) mw_454 mw_719 mw_452 mw_453 mw_2 rfl rfl ydX7_ofHoop ⟨by decide, by decide⟩) (by omega) (ls_at hL1) rfl rfl hl.1 rfl (Nat.le_of_ble_eq_true rfl) dL_isPart_453 ⟨Nat.zero_le _, Nat.zero_le _⟩ (fun r6 C2 H locs hq hP hS => ?_)
  obtain ⟨hw6, hr6⟩ := hq; rw [hw6] at hP
  have hr6 := hr6.trans ((oh_4 hg5).trans hg10)
  subst hr6
  refine lv_iload F.1 F.2.1 dL_isPart_456 (lv_at hl 2 rfl) ?_
  refine lv_icmp_ne (tgt := 501) F.1 F.2.1 dL_isPart_458 (by decide) (fun c10 => False.elim (c10 rfl)) (fun c10 => ?_)
  refine lv_aload_n F.1 F.2.1 dL_isPart_461 rfl (lv_at hl 9 rfl) ?_
  refine lv_iconst (v := 5) F.1 F.2.1 dL_isPart_462 (by decide) ?_
  refine w_calli F hP hS (k_ofHoop l D Y ad N hI hN _ hL1 5) (cwVm 1 F.2.2.2.2.1 (fun _ h => h) mw_454 mw_719 mw_452 mw_453 mw_2 rfl rfl ydX7_ofHoop ⟨by decide, by decide⟩) (by omega) (ls_at hL1) rfl rfl hl.1 rfl (Nat.le_of_ble_eq_true rfl) dL_isPart_463 ⟨Nat.zero_le _, Nat.zero_le _⟩ (fun r7 C2 H locs hq hP hS => ?_)
  obtain ⟨hw7, hr7⟩ := hq; rw [hw7] at hP
  have hr7 := hr7.trans ((oh_5 hg5).trans hg11)
  subst hr7
  refine lv_iload F.1 F.2.1 dL_isPart_466 (lv_at hl 3 rfl) ?_
  refine lv_icmp_ne (tgt := 501) F.1 F.2.1 dL_isPart_468 (by decide) (fun c11 => False.elim (c11 rfl)) (fun c11 => ?_)
  refine lv_aload_n F.1 F.2.1 dL_isPart_471 rfl (lv_at hl 9 rfl) ?_
  refine lv_bipush (v := 6) F.1 F.2.1 dL_isPart_472 (by decide) ?_
  refine w_calli F hP hS (k_ofHoop l D Y ad N hI hN _ hL1 6) (cwVm 1 F.2.2.2.2.1 (fun _ h => h) mw_454 mw_719 mw_452 mw_453 mw_2 rfl rfl ydX7_ofHoop ⟨by decide, by decide⟩) (by omega) (ls_at hL1) rfl rfl hl.1 rfl (Nat.le_of_ble_eq_true rfl) dL_isPart_474 ⟨Nat.zero_le _, Nat.zero_le _⟩ (fun r8 C2 H locs hq hP hS => ?_)
  obtain ⟨hw8, hr8⟩ := hq; rw [hw8] at hP
  have hr8 := hr8.trans ((oh_6 hg5).trans hg12)
  subst hr8
  refine lv_aload_n F.1 F.2.1 dL_isPart_477 rfl (lv_at hl 8 rfl) ?_
  refine lv_bipush (v := 6) F.1 F.2.1 dL_isPart_478 (by decide) ?_
  refine w_iald F hP (by omega) hH1 (k := 6) rfl (by decide) (Nat.le_of_ble_eq_true rfl) (v := f 12) hv_6 dL_isPart_480 ?_
  refine lv_icmp_ne (tgt := 501) F.1 F.2.1 dL_isPart_481 (by decide) (fun c12 => False.elim (c12 rfl)) (fun c12 => ?_)
  refine lv_aload_n F.1 F.2.1 dL_isPart_484 rfl (lv_at hl 9 rfl) ?_
  refine lv_bipush (v := 7) F.1 F.2.1 dL_isPart_485 (by decide) ?_
  refine w_calli F hP hS (k_ofHoop l D Y ad N hI hN _ hL1 7) (cwVm 1 F.2.2.2.2.1 (fun _ h => h) mw_454 mw_719 mw_452 mw_453 mw_2 rfl rfl ydX7_ofHoop ⟨by decide, by decide⟩) (by omega) (ls_at hL1) rfl rfl hl.1 rfl (Nat.le_of_ble_eq_true rfl) dL_isPart_487 ⟨Nat.zero_le _, Nat.zero_le _⟩ (fun r9 C2 H locs hq hP hS => ?_)
  obtain ⟨hw9, hr9⟩ := hq; rw [hw9] at hP
  have hr9 := hr9.trans ((oh_7 hg5).trans hg13)
  subst hr9
  refine lv_aload_n F.1 F.2.1 dL_isPart_490 rfl (lv_at hl 8 rfl) ?_
  refine lv_bipush (v := 7) F.1 F.2.1 dL_isPart_491 (by decide) ?_
  refine w_iald F hP (by omega) hH1 (k := 7) rfl (by decide) (Nat.le_of_ble_eq_true rfl) (v := f 13) hv_7 dL_isPart_493 ?_
  refine lv_icmp_ne (tgt := 501) F.1 F.2.1 dL_isPart_494 (by decide) (fun c13 => False.elim (c13 rfl)) (fun c13 => ?_)
  refine lv_iconst (v := 1) F.1 F.2.1 dL_isPart_497 (by decide) ?_
  refine lv_goto (tgt := 502) F.1 F.2.1 dL_isPart_498 (by decide) ?_
  refine lv_istore (lv' := [(10, .int (1)), (9, .int (0)), (8, .int (0)), (7, .int (nI (k + 1))), (6, .int (0)), (5, .int (valAt f k)), (4, .int (kd)), (3, .int (nI k)), (2, .int (g1 8)), (1, .ref (ad 170)), (0, .ref (ad 0))]) F.1 F.2.1 dL_isPart_502 hl (by decide) rfl (fun ls hl => ?_)
  refine lv_iload F.1 F.2.1 dL_isPart_504 (lv_at hl 4 rfl) ?_
  refine lv_if_le (tgt := 615) F.1 F.2.1 dL_isPart_506 (by decide) (fun c14 => ?_) (fun c14 => False.elim (by revert c14; decide))
  refine lv_iload F.1 F.2.1 dL_isPart_615 (lv_at hl 0 rfl) ?_
  exact w_zret F hr hlocks hP hS (Or.inr rfl) dL_isPart_617 ⟨rfl, hL1, _, hH1⟩
set_option maxRecDepth 20000 in
set_option maxHeartbeats 4000000 in
theorem ip_tail_1 {p : Program} {l : Launch} {e : Env} {s : State} {m : MethodId} {below : List Frame} {meth : Method} {c : Code} {args : Array Value} {D : va_G} {Y : Nat → ClassId} {ad : Nat → Nat} {N : Nat} (hI : wI ad N) (hN : 171 ≤ N) (F : wFix p s m c args cL_isPart RL 11 D Y ad N) (hr : meth.sig.returnType = some .boolean) (hlocks : meth.locks = false) {C : Nat → va_E} {f : Nat → Int32} {sl : Nat → Nat → Int32} {sv : Nat → Int32} {hv : Nat → Int32} {B : Int} {H : Heap} {locs : List Loc} (hP : wP D ad N C H) (hS : va_S (wA ad N) s.heap H locs) (hL : kLS Y ad C f sl sv) (hH : C 170 = .inl (Y 0, 8, .inl hv)) (hok : okRow B f) (hB0 : 0 ≤ B) (hB : B + 5000 ≤ 900000000) (h5 : f 5 = 1) (h11 : f 11 = 0) {k n : Nat} (h10 : f 10 = nI k) (h4 : f 4 = nI n) (hkn : k < n) (hn : n ≤ 20) {kd : Int32} {g1 : Nat → Int32} (eg : T_rolled 1 f 0 = g1) (hw : T_hw f k = 1) (hv_0 : hv 0 = f 6) (hv_1 : hv 1 = g1 7) (hv_3 : hv 3 = g1 9) (hv_6 : hv 6 = f 12) (hv_7 : hv 7 = f 13) {ls : Array Slot} (hl : lv_has ls 11 [(6, .int 1), (5, .int (valAt f k)), (4, .int kd), (3, .int (nI k)), (2, .int (g1 8)), (1, .ref (ad 170)), (0, .ref (ad 0))]) : W p l e { frames := 7, cells := 0, slots := 0, locals := 151 } s m args below meth c H locs 0 0 (MQ below (wQi D ad N (fun r C' => r = 1 ∧ kLT Y ad C' g1 sl sv)) args s 0 0 (wA ad N)) (F0 m 330 ls []) := by
  obtain ⟨hg4, hg5, hg6, hg12, hg13, -, -, -, hg11, hg10⟩ := ip_facts hok (by omega) h5 h11 h10 h4 hkn hn eg
  rw [hw] at hg11 hg10
  have hg10 : g1 10 = nI k := hg10.trans (if_neg (by decide))
  have okg : okRow (B + 25) g1 := by rw [← eg]; exact okRow_roll (g := 0) 1 (by omega) hok h5 h11
  obtain ⟨e1, e2, e3, e4, e5, e6, e7⟩ := ip_end hok (by omega) h5 h11 h10 h4 hkn hn eg (w := 1) hw (by decide) (by decide)
  have e4 : g1 22 = 1 := e4
  have e5 : g1 23 = nI k := e5.trans hg10
  have e7 : g1 (63 + 5 * k) = f (63 + 5 * k) + 1 := by have q := e7 (by decide); rw [show 62 + 5 * k + 1 = 63 + 5 * k by omega] at q; exact q
  refine lv_iload F.1 F.2.1 dL_isPart_330 (lv_at hl 0 rfl) ?_
  refine lv_if_le (tgt := 345) F.1 F.2.1 dL_isPart_332 (by decide) (fun c1 => False.elim (by revert c1; decide)) (fun c1 => ?_)
  refine lv_iload F.1 F.2.1 dL_isPart_335 (lv_at hl 0 rfl) ?_
  refine lv_iconst (v := 4) F.1 F.2.1 dL_isPart_337 (by decide) ?_
  refine lv_icmp_ge (tgt := 345) F.1 F.2.1 dL_isPart_338 (by decide) (fun c2 => False.elim (by revert c2; decide)) (fun c2 => ?_)
  refine lv_iload_n F.1 F.2.1 dL_isPart_341 rfl (lv_at hl 3 rfl) ?_
  refine lv_goto (tgt := 348) F.1 F.2.1 dL_isPart_342 (by decide) ?_
  refine lv_istore (lv' := [(7, .int (nI k)), (6, .int (1)), (5, .int (valAt f k)), (4, .int (kd)), (3, .int (nI k)), (2, .int (g1 8)), (1, .ref (ad 170)), (0, .ref (ad 0))]) F.1 F.2.1 dL_isPart_348 hl (by decide) rfl (fun ls hl => ?_)
  refine lv_iload F.1 F.2.1 dL_isPart_350 (lv_at hl 1 rfl) ?_
  refine lv_if_ne (tgt := 359) F.1 F.2.1 dL_isPart_352 (by decide) (fun c3 => ?_) (fun c3 => False.elim (by revert c3; decide))
  refine lv_aload_n F.1 F.2.1 dL_isPart_359 rfl (lv_at hl 7 rfl) ?_
  refine lv_iconst (v := 1) F.1 F.2.1 dL_isPart_360 (by decide) ?_
  refine lv_iload F.1 F.2.1 dL_isPart_361 (lv_at hl 1 rfl) ?_
  refine lv_iadd F.1 F.2.1 dL_isPart_363 ?_
  refine lv_topi (fun v4 ev4 => ?_)
  have ev4 : v4 = 2 := ev4.trans (by decide)
  subst ev4
  refine w_calli F hP hS (k_count l D Y ad N hI hN _ hL 2 (by decide) hok) (cwVm 1 F.2.2.2.2.1 (fun _ h => h) mw_482 mw_716 mw_480 mw_481 mw_2 rfl rfl ydX7_count ⟨by decide, by decide⟩) (by omega) (ls_at hL) rfl rfl hl.1 rfl (Nat.le_of_ble_eq_true rfl) dL_isPart_364 ⟨Nat.zero_le _, Nat.zero_le _⟩ (fun r1 C2 H locs hq hP hS => ?_)
  obtain ⟨hw1, hr1⟩ := hq; rw [hw1] at hP
  have hr1 := hr1.trans cn_2
  subst hr1
  refine lv_istore (lv' := [(8, .int (f 15)), (7, .int (nI k)), (6, .int (1)), (5, .int (valAt f k)), (4, .int (kd)), (3, .int (nI k)), (2, .int (g1 8)), (1, .ref (ad 170)), (0, .ref (ad 0))]) F.1 F.2.1 dL_isPart_367 hl (by decide) rfl (fun ls hl => ?_)
  refine lv_iload F.1 F.2.1 dL_isPart_369 (lv_at hl 2 rfl) ?_
  refine lv_if_eq (tgt := 380) F.1 F.2.1 dL_isPart_371 (by decide) (fun c5 => False.elim (by revert c5; decide)) (fun c5 => ?_)
  refine lv_iload F.1 F.2.1 dL_isPart_374 (lv_at hl 2 rfl) ?_
  refine lv_iconst (v := 4) F.1 F.2.1 dL_isPart_376 (by decide) ?_
  refine lv_icmp_ne (tgt := 384) F.1 F.2.1 dL_isPart_377 (by decide) (fun c6 => ?_) (fun c6 => False.elim (by revert c6; decide))
  refine lv_aload_n F.1 F.2.1 dL_isPart_384 rfl (lv_at hl 8 rfl) ?_
  refine lv_iload_n F.1 F.2.1 dL_isPart_385 rfl (lv_at hl 5 rfl) ?_
  refine lv_iconst (v := 1) F.1 F.2.1 dL_isPart_386 (by decide) ?_
  refine lv_iload F.1 F.2.1 dL_isPart_387 (lv_at hl 2 rfl) ?_
  refine lv_iadd F.1 F.2.1 dL_isPart_389 ?_
  refine lv_topi (fun v7 ev7 => ?_)
  have ev7 : v7 = 2 := ev7.trans (by decide)
  subst ev7
  refine w_calli F hP hS (k_of l D Y ad N hI hN _ hL (nI k) 2) (cwVm 2 F.2.2.2.2.1 (fun _ h => h) mw_445 mw_717 mw_443 mw_444 mw_2 rfl rfl ydX7_of ⟨by decide, by decide⟩) (by omega) (ls_at hL) rfl rfl hl.1 rfl (Nat.le_of_ble_eq_true rfl) dL_isPart_390 ⟨Nat.zero_le _, Nat.zero_le _⟩ (fun r2 C2 H locs hq hP hS => ?_)
  obtain ⟨hw2, hr2⟩ := hq; rw [hw2] at hP
  have hr2 := hr2.trans (of_2 h4 hkn hn)
  subst hr2
  refine lv_istore (lv' := [(9, .int (f (63 + 5 * k))), (8, .int (f 15)), (7, .int (nI k)), (6, .int (1)), (5, .int (valAt f k)), (4, .int (kd)), (3, .int (nI k)), (2, .int (g1 8)), (1, .ref (ad 170)), (0, .ref (ad 0))]) F.1 F.2.1 dL_isPart_393 hl (by decide) rfl (fun ls hl => ?_)
  refine lv_aload_n F.1 F.2.1 dL_isPart_395 rfl (lv_at hl 9 rfl) ?_
  refine lv_iconst (v := 1) F.1 F.2.1 dL_isPart_396 (by decide) ?_
  refine w_calli F hP hS (k_roll l D Y ad N hI hN _ hL h5 h11 hok (by omega) hB0) (cwVm 1 F.2.2.2.2.1 (fun _ h => h) mw_278 mw_720 mw_276 mw_277 mw_2 rfl rfl ydX7_roll ⟨by decide, by decide⟩) (by omega) (ls_at hL) rfl rfl hl.1 rfl (Nat.le_of_ble_eq_true rfl) dL_isPart_397 ⟨Nat.zero_le _, Nat.zero_le _⟩ (fun r3 C3 H locs hq hP hS => ?_)
  obtain ⟨hr3, hL3, hz3⟩ := hq
  have hH3 := hz3.trans hH
  have hr3 := hr3.trans (show T_rolled 1 f 0 11 = 1 by rw [eg]; exact hg11)
  subst hr3
  rw [eg] at hL3
  refine lv_iload F.1 F.2.1 dL_isPart_400 (lv_at hl 3 rfl) ?_
  refine lv_icmp_ne (tgt := 501) F.1 F.2.1 dL_isPart_402 (by decide) (fun c8 => False.elim (c8 rfl)) (fun c8 => ?_)
  refine lv_aload_n F.1 F.2.1 dL_isPart_405 rfl (lv_at hl 9 rfl) ?_
  refine lv_iconst (v := 0) F.1 F.2.1 dL_isPart_406 (by decide) ?_
  refine w_calli F hP hS (k_ofHoop l D Y ad N hI hN _ hL3 0) (cwVm 1 F.2.2.2.2.1 (fun _ h => h) mw_454 mw_719 mw_452 mw_453 mw_2 rfl rfl ydX7_ofHoop ⟨by decide, by decide⟩) (by omega) (ls_at hL3) rfl rfl hl.1 rfl (Nat.le_of_ble_eq_true rfl) dL_isPart_407 ⟨Nat.zero_le _, Nat.zero_le _⟩ (fun r4 C2 H locs hq hP hS => ?_)
  obtain ⟨hw4, hr4⟩ := hq; rw [hw4] at hP
  have hr4 := hr4.trans ((oh_0 hg5).trans hg6)
  subst hr4
  refine lv_aload_n F.1 F.2.1 dL_isPart_410 rfl (lv_at hl 8 rfl) ?_
  refine lv_iconst (v := 0) F.1 F.2.1 dL_isPart_411 (by decide) ?_
  refine w_iald F hP (by omega) hH3 (k := 0) rfl (by decide) (Nat.le_of_ble_eq_true rfl) (v := f 6) hv_0 dL_isPart_412 ?_
  refine lv_icmp_ne (tgt := 501) F.1 F.2.1 dL_isPart_413 (by decide) (fun c9 => False.elim (c9 rfl)) (fun c9 => ?_)
  refine lv_aload_n F.1 F.2.1 dL_isPart_416 rfl (lv_at hl 9 rfl) ?_
  refine lv_iconst (v := 1) F.1 F.2.1 dL_isPart_417 (by decide) ?_
  refine w_calli F hP hS (k_ofHoop l D Y ad N hI hN _ hL3 1) (cwVm 1 F.2.2.2.2.1 (fun _ h => h) mw_454 mw_719 mw_452 mw_453 mw_2 rfl rfl ydX7_ofHoop ⟨by decide, by decide⟩) (by omega) (ls_at hL3) rfl rfl hl.1 rfl (Nat.le_of_ble_eq_true rfl) dL_isPart_418 ⟨Nat.zero_le _, Nat.zero_le _⟩ (fun r5 C2 H locs hq hP hS => ?_)
  obtain ⟨hw5, hr5⟩ := hq; rw [hw5] at hP
  have hr5 := hr5.trans (oh_1 hg5)
  subst hr5
  refine lv_aload_n F.1 F.2.1 dL_isPart_421 rfl (lv_at hl 8 rfl) ?_
  refine lv_iconst (v := 1) F.1 F.2.1 dL_isPart_422 (by decide) ?_
  refine w_iald F hP (by omega) hH3 (k := 1) rfl (by decide) (Nat.le_of_ble_eq_true rfl) (v := g1 7) hv_1 dL_isPart_423 ?_
  refine lv_icmp_ne (tgt := 501) F.1 F.2.1 dL_isPart_424 (by decide) (fun c10 => False.elim (c10 rfl)) (fun c10 => ?_)
  refine lv_aload_n F.1 F.2.1 dL_isPart_427 rfl (lv_at hl 9 rfl) ?_
  refine lv_iconst (v := 2) F.1 F.2.1 dL_isPart_428 (by decide) ?_
  refine w_calli F hP hS (k_ofHoop l D Y ad N hI hN _ hL3 2) (cwVm 1 F.2.2.2.2.1 (fun _ h => h) mw_454 mw_719 mw_452 mw_453 mw_2 rfl rfl ydX7_ofHoop ⟨by decide, by decide⟩) (by omega) (ls_at hL3) rfl rfl hl.1 rfl (Nat.le_of_ble_eq_true rfl) dL_isPart_429 ⟨Nat.zero_le _, Nat.zero_le _⟩ (fun r6 C2 H locs hq hP hS => ?_)
  obtain ⟨hw6, hr6⟩ := hq; rw [hw6] at hP
  have hr6 := hr6.trans (oh_2 hg5)
  subst hr6
  refine lv_iload_n F.1 F.2.1 dL_isPart_432 rfl (lv_at hl 7 rfl) ?_
  refine lv_sipush (v := 500) F.1 F.2.1 dL_isPart_433 (by decide) ?_
  refine lv_iadd F.1 F.2.1 dL_isPart_436 ?_
  refine lv_icmp_ne (tgt := 501) F.1 F.2.1 dL_isPart_437 (by decide) (fun c11 => False.elim (c11 rfl)) (fun c11 => ?_)
  refine lv_aload_n F.1 F.2.1 dL_isPart_440 rfl (lv_at hl 9 rfl) ?_
  refine lv_iconst (v := 3) F.1 F.2.1 dL_isPart_441 (by decide) ?_
  refine w_calli F hP hS (k_ofHoop l D Y ad N hI hN _ hL3 3) (cwVm 1 F.2.2.2.2.1 (fun _ h => h) mw_454 mw_719 mw_452 mw_453 mw_2 rfl rfl ydX7_ofHoop ⟨by decide, by decide⟩) (by omega) (ls_at hL3) rfl rfl hl.1 rfl (Nat.le_of_ble_eq_true rfl) dL_isPart_442 ⟨Nat.zero_le _, Nat.zero_le _⟩ (fun r7 C2 H locs hq hP hS => ?_)
  obtain ⟨hw7, hr7⟩ := hq; rw [hw7] at hP
  have hr7 := hr7.trans (oh_3 hg5)
  subst hr7
  refine lv_aload_n F.1 F.2.1 dL_isPart_445 rfl (lv_at hl 8 rfl) ?_
  refine lv_iconst (v := 3) F.1 F.2.1 dL_isPart_446 (by decide) ?_
  refine w_iald F hP (by omega) hH3 (k := 3) rfl (by decide) (Nat.le_of_ble_eq_true rfl) (v := g1 9) hv_3 dL_isPart_447 ?_
  refine lv_icmp_ne (tgt := 501) F.1 F.2.1 dL_isPart_448 (by decide) (fun c12 => False.elim (c12 rfl)) (fun c12 => ?_)
  refine lv_aload_n F.1 F.2.1 dL_isPart_451 rfl (lv_at hl 9 rfl) ?_
  refine lv_iconst (v := 4) F.1 F.2.1 dL_isPart_452 (by decide) ?_
  refine w_calli F hP hS (k_ofHoop l D Y ad N hI hN _ hL3 4) (cwVm 1 F.2.2.2.2.1 (fun _ h => h) mw_454 mw_719 mw_452 mw_453 mw_2 rfl rfl ydX7_ofHoop ⟨by decide, by decide⟩) (by omega) (ls_at hL3) rfl rfl hl.1 rfl (Nat.le_of_ble_eq_true rfl) dL_isPart_453 ⟨Nat.zero_le _, Nat.zero_le _⟩ (fun r8 C2 H locs hq hP hS => ?_)
  obtain ⟨hw8, hr8⟩ := hq; rw [hw8] at hP
  have hr8 := hr8.trans ((oh_4 hg5).trans hg10)
  subst hr8
  refine lv_iload F.1 F.2.1 dL_isPart_456 (lv_at hl 2 rfl) ?_
  refine lv_icmp_ne (tgt := 501) F.1 F.2.1 dL_isPart_458 (by decide) (fun c13 => False.elim (c13 rfl)) (fun c13 => ?_)
  refine lv_aload_n F.1 F.2.1 dL_isPart_461 rfl (lv_at hl 9 rfl) ?_
  refine lv_iconst (v := 5) F.1 F.2.1 dL_isPart_462 (by decide) ?_
  refine w_calli F hP hS (k_ofHoop l D Y ad N hI hN _ hL3 5) (cwVm 1 F.2.2.2.2.1 (fun _ h => h) mw_454 mw_719 mw_452 mw_453 mw_2 rfl rfl ydX7_ofHoop ⟨by decide, by decide⟩) (by omega) (ls_at hL3) rfl rfl hl.1 rfl (Nat.le_of_ble_eq_true rfl) dL_isPart_463 ⟨Nat.zero_le _, Nat.zero_le _⟩ (fun r9 C2 H locs hq hP hS => ?_)
  obtain ⟨hw9, hr9⟩ := hq; rw [hw9] at hP
  have hr9 := hr9.trans ((oh_5 hg5).trans hg11)
  subst hr9
  refine lv_iload F.1 F.2.1 dL_isPart_466 (lv_at hl 3 rfl) ?_
  refine lv_icmp_ne (tgt := 501) F.1 F.2.1 dL_isPart_468 (by decide) (fun c14 => False.elim (c14 rfl)) (fun c14 => ?_)
  refine lv_aload_n F.1 F.2.1 dL_isPart_471 rfl (lv_at hl 9 rfl) ?_
  refine lv_bipush (v := 6) F.1 F.2.1 dL_isPart_472 (by decide) ?_
  refine w_calli F hP hS (k_ofHoop l D Y ad N hI hN _ hL3 6) (cwVm 1 F.2.2.2.2.1 (fun _ h => h) mw_454 mw_719 mw_452 mw_453 mw_2 rfl rfl ydX7_ofHoop ⟨by decide, by decide⟩) (by omega) (ls_at hL3) rfl rfl hl.1 rfl (Nat.le_of_ble_eq_true rfl) dL_isPart_474 ⟨Nat.zero_le _, Nat.zero_le _⟩ (fun r10 C2 H locs hq hP hS => ?_)
  obtain ⟨hw10, hr10⟩ := hq; rw [hw10] at hP
  have hr10 := hr10.trans ((oh_6 hg5).trans hg12)
  subst hr10
  refine lv_aload_n F.1 F.2.1 dL_isPart_477 rfl (lv_at hl 8 rfl) ?_
  refine lv_bipush (v := 6) F.1 F.2.1 dL_isPart_478 (by decide) ?_
  refine w_iald F hP (by omega) hH3 (k := 6) rfl (by decide) (Nat.le_of_ble_eq_true rfl) (v := f 12) hv_6 dL_isPart_480 ?_
  refine lv_icmp_ne (tgt := 501) F.1 F.2.1 dL_isPart_481 (by decide) (fun c15 => False.elim (c15 rfl)) (fun c15 => ?_)
  refine lv_aload_n F.1 F.2.1 dL_isPart_484 rfl (lv_at hl 9 rfl) ?_
  refine lv_bipush (v := 7) F.1 F.2.1 dL_isPart_485 (by decide) ?_
  refine w_calli F hP hS (k_ofHoop l D Y ad N hI hN _ hL3 7) (cwVm 1 F.2.2.2.2.1 (fun _ h => h) mw_454 mw_719 mw_452 mw_453 mw_2 rfl rfl ydX7_ofHoop ⟨by decide, by decide⟩) (by omega) (ls_at hL3) rfl rfl hl.1 rfl (Nat.le_of_ble_eq_true rfl) dL_isPart_487 ⟨Nat.zero_le _, Nat.zero_le _⟩ (fun r11 C2 H locs hq hP hS => ?_)
  obtain ⟨hw11, hr11⟩ := hq; rw [hw11] at hP
  have hr11 := hr11.trans ((oh_7 hg5).trans hg13)
  subst hr11
  refine lv_aload_n F.1 F.2.1 dL_isPart_490 rfl (lv_at hl 8 rfl) ?_
  refine lv_bipush (v := 7) F.1 F.2.1 dL_isPart_491 (by decide) ?_
  refine w_iald F hP (by omega) hH3 (k := 7) rfl (by decide) (Nat.le_of_ble_eq_true rfl) (v := f 13) hv_7 dL_isPart_493 ?_
  refine lv_icmp_ne (tgt := 501) F.1 F.2.1 dL_isPart_494 (by decide) (fun c16 => False.elim (c16 rfl)) (fun c16 => ?_)
  refine lv_iconst (v := 1) F.1 F.2.1 dL_isPart_497 (by decide) ?_
  refine lv_goto (tgt := 502) F.1 F.2.1 dL_isPart_498 (by decide) ?_
  refine lv_istore (lv' := [(10, .int (1)), (9, .int (f (63 + 5 * k))), (8, .int (f 15)), (7, .int (nI k)), (6, .int (1)), (5, .int (valAt f k)), (4, .int (kd)), (3, .int (nI k)), (2, .int (g1 8)), (1, .ref (ad 170)), (0, .ref (ad 0))]) F.1 F.2.1 dL_isPart_502 hl (by decide) rfl (fun ls hl => ?_)
  refine lv_iload F.1 F.2.1 dL_isPart_504 (lv_at hl 4 rfl) ?_
  refine lv_if_le (tgt := 615) F.1 F.2.1 dL_isPart_506 (by decide) (fun c17 => False.elim (by revert c17; decide)) (fun c17 => ?_)
  refine lv_iload F.1 F.2.1 dL_isPart_509 (lv_at hl 0 rfl) ?_
  refine lv_if_eq (tgt := 612) F.1 F.2.1 dL_isPart_511 (by decide) (fun c18 => False.elim (by revert c18; decide)) (fun c18 => ?_)
  refine lv_aload_n F.1 F.2.1 dL_isPart_514 rfl (lv_at hl 10 rfl) ?_
  refine lv_iconst (v := 1) F.1 F.2.1 dL_isPart_515 (by decide) ?_
  refine lv_iload F.1 F.2.1 dL_isPart_516 (lv_at hl 4 rfl) ?_
  refine lv_iadd F.1 F.2.1 dL_isPart_518 ?_
  refine lv_topi (fun v19 ev19 => ?_)
  have ev19 : v19 = 2 := ev19.trans (by decide)
  subst ev19
  refine w_calli F hP hS (k_count l D Y ad N hI hN _ hL3 2 (by decide) okg) (cwVm 1 F.2.2.2.2.1 (fun _ h => h) mw_482 mw_716 mw_480 mw_481 mw_2 rfl rfl ydX7_count ⟨by decide, by decide⟩) (by omega) (ls_at hL3) rfl rfl hl.1 rfl (Nat.le_of_ble_eq_true rfl) dL_isPart_519 ⟨Nat.zero_le _, Nat.zero_le _⟩ (fun r12 C2 H locs hq hP hS => ?_)
  obtain ⟨hw12, hr12⟩ := hq; rw [hw12] at hP
  have hr12 := hr12.trans (cn_2.trans e1)
  subst hr12
  refine lv_iload F.1 F.2.1 dL_isPart_522 (lv_at hl 2 rfl) ?_
  refine lv_iconst (v := 1) F.1 F.2.1 dL_isPart_524 (by decide) ?_
  refine lv_iadd F.1 F.2.1 dL_isPart_525 ?_
  refine lv_icmp_ne (tgt := 612) F.1 F.2.1 dL_isPart_526 (by decide) (fun c20 => False.elim (c20 rfl)) (fun c20 => ?_)
  refine lv_aload_n F.1 F.2.1 dL_isPart_529 rfl (lv_at hl 10 rfl) ?_
  refine lv_iconst (v := 0) F.1 F.2.1 dL_isPart_530 (by decide) ?_
  refine lv_iconst (v := 0) F.1 F.2.1 dL_isPart_531 (by decide) ?_
  refine w_calli F hP hS (k_run l D Y ad N hI hN _ hL3 0 0) (cwVm 2 F.2.2.2.2.1 (fun _ h => h) mw_465 mw_718 mw_463 mw_464 mw_2 rfl rfl ydX7_run ⟨by decide, by decide⟩) (by omega) (ls_at hL3) rfl rfl hl.1 rfl (Nat.le_of_ble_eq_true rfl) dL_isPart_532 ⟨Nat.zero_le _, Nat.zero_le _⟩ (fun r13 C2 H locs hq hP hS => ?_)
  obtain ⟨hw13, hr13⟩ := hq; rw [hw13] at hP
  have hr13 := hr13.trans ((rn_0_0 e2).trans e3)
  subst hr13
  refine lv_aload_n F.1 F.2.1 dL_isPart_535 rfl (lv_at hl 9 rfl) ?_
  refine lv_iconst (v := 0) F.1 F.2.1 dL_isPart_536 (by decide) ?_
  refine w_iald F hP (by omega) hH3 (k := 0) rfl (by decide) (Nat.le_of_ble_eq_true rfl) (v := f 6) hv_0 dL_isPart_537 ?_
  refine lv_icmp_ne (tgt := 612) F.1 F.2.1 dL_isPart_538 (by decide) (fun c21 => False.elim (c21 rfl)) (fun c21 => ?_)
  refine lv_aload_n F.1 F.2.1 dL_isPart_541 rfl (lv_at hl 10 rfl) ?_
  refine lv_iconst (v := 0) F.1 F.2.1 dL_isPart_542 (by decide) ?_
  refine lv_iconst (v := 1) F.1 F.2.1 dL_isPart_543 (by decide) ?_
  refine w_calli F hP hS (k_run l D Y ad N hI hN _ hL3 0 1) (cwVm 2 F.2.2.2.2.1 (fun _ h => h) mw_465 mw_718 mw_463 mw_464 mw_2 rfl rfl ydX7_run ⟨by decide, by decide⟩) (by omega) (ls_at hL3) rfl rfl hl.1 rfl (Nat.le_of_ble_eq_true rfl) dL_isPart_544 ⟨Nat.zero_le _, Nat.zero_le _⟩ (fun r14 C2 H locs hq hP hS => ?_)
  obtain ⟨hw14, hr14⟩ := hq; rw [hw14] at hP
  have hr14 := hr14.trans ((rn_0_1 e2).trans e4)
  subst hr14
  refine lv_iload F.1 F.2.1 dL_isPart_547 (lv_at hl 4 rfl) ?_
  refine lv_icmp_ne (tgt := 612) F.1 F.2.1 dL_isPart_549 (by decide) (fun c22 => False.elim (c22 rfl)) (fun c22 => ?_)
  refine lv_aload_n F.1 F.2.1 dL_isPart_552 rfl (lv_at hl 10 rfl) ?_
  refine lv_iconst (v := 0) F.1 F.2.1 dL_isPart_553 (by decide) ?_
  refine lv_iconst (v := 2) F.1 F.2.1 dL_isPart_554 (by decide) ?_
  refine w_calli F hP hS (k_run l D Y ad N hI hN _ hL3 0 2) (cwVm 2 F.2.2.2.2.1 (fun _ h => h) mw_465 mw_718 mw_463 mw_464 mw_2 rfl rfl ydX7_run ⟨by decide, by decide⟩) (by omega) (ls_at hL3) rfl rfl hl.1 rfl (Nat.le_of_ble_eq_true rfl) dL_isPart_555 ⟨Nat.zero_le _, Nat.zero_le _⟩ (fun r15 C2 H locs hq hP hS => ?_)
  obtain ⟨hw15, hr15⟩ := hq; rw [hw15] at hP
  have hr15 := hr15.trans ((rn_0_2 e2).trans e5)
  subst hr15
  refine lv_iload F.1 F.2.1 dL_isPart_558 (lv_at hl 3 rfl) ?_
  refine lv_icmp_ne (tgt := 612) F.1 F.2.1 dL_isPart_560 (by decide) (fun c23 => False.elim (c23 rfl)) (fun c23 => ?_)
  refine lv_aload_n F.1 F.2.1 dL_isPart_563 rfl (lv_at hl 10 rfl) ?_
  refine lv_iconst (v := 0) F.1 F.2.1 dL_isPart_564 (by decide) ?_
  refine lv_iconst (v := 3) F.1 F.2.1 dL_isPart_565 (by decide) ?_
  refine w_calli F hP hS (k_run l D Y ad N hI hN _ hL3 0 3) (cwVm 2 F.2.2.2.2.1 (fun _ h => h) mw_465 mw_718 mw_463 mw_464 mw_2 rfl rfl ydX7_run ⟨by decide, by decide⟩) (by omega) (ls_at hL3) rfl rfl hl.1 rfl (Nat.le_of_ble_eq_true rfl) dL_isPart_566 ⟨Nat.zero_le _, Nat.zero_le _⟩ (fun r16 C2 H locs hq hP hS => ?_)
  obtain ⟨hw16, hr16⟩ := hq; rw [hw16] at hP
  have hr16 := hr16.trans ((rn_0_3 e2).trans e6)
  subst hr16
  refine lv_aload_n F.1 F.2.1 dL_isPart_569 rfl (lv_at hl 9 rfl) ?_
  refine lv_bipush (v := 6) F.1 F.2.1 dL_isPart_570 (by decide) ?_
  refine w_iald F hP (by omega) hH3 (k := 6) rfl (by decide) (Nat.le_of_ble_eq_true rfl) (v := f 12) hv_6 dL_isPart_572 ?_
  refine lv_icmp_ne (tgt := 612) F.1 F.2.1 dL_isPart_573 (by decide) (fun c24 => False.elim (c24 rfl)) (fun c24 => ?_)
  refine lv_aload_n F.1 F.2.1 dL_isPart_576 rfl (lv_at hl 10 rfl) ?_
  refine lv_iconst (v := 1) F.1 F.2.1 dL_isPart_577 (by decide) ?_
  refine w_calli F hP hS (k_roll_n l D Y ad N hI hN _ hL3 (fun q => absurd (hg11.symm.trans q.2) (by decide)) okg (by omega)) (cwVm 1 F.2.2.2.2.1 (fun _ h => h) mw_278 mw_720 mw_276 mw_277 mw_2 rfl rfl ydX7_roll ⟨by decide, by decide⟩) (by omega) (ls_at hL3) rfl rfl hl.1 rfl (Nat.le_of_ble_eq_true rfl) dL_isPart_578 ⟨Nat.zero_le _, Nat.zero_le _⟩ (fun r17 C2 H locs hq hP hS => ?_)
  obtain ⟨hw17, hr17⟩ := hq; rw [hw17] at hP
  subst hr17
  refine lv_bipush (v := (-5)) F.1 F.2.1 dL_isPart_581 (by decide) ?_
  refine lv_icmp_ne (tgt := 612) F.1 F.2.1 dL_isPart_583 (by decide) (fun c25 => False.elim (c25 rfl)) (fun c25 => ?_)
  refine lv_iload F.1 F.2.1 dL_isPart_586 (lv_at hl 4 rfl) ?_
  refine lv_iconst (v := 4) F.1 F.2.1 dL_isPart_588 (by decide) ?_
  refine lv_icmp_eq (tgt := 608) F.1 F.2.1 dL_isPart_589 (by decide) (fun c26 => False.elim (by revert c26; decide)) (fun c26 => ?_)
  refine lv_aload_n F.1 F.2.1 dL_isPart_592 rfl (lv_at hl 10 rfl) ?_
  refine lv_iload_n F.1 F.2.1 dL_isPart_593 rfl (lv_at hl 7 rfl) ?_
  refine lv_iconst (v := 1) F.1 F.2.1 dL_isPart_594 (by decide) ?_
  refine lv_iload F.1 F.2.1 dL_isPart_595 (lv_at hl 4 rfl) ?_
  refine lv_iadd F.1 F.2.1 dL_isPart_597 ?_
  refine lv_topi (fun v27 ev27 => ?_)
  have ev27 : v27 = 2 := ev27.trans (by decide)
  subst ev27
  refine w_calli F hP hS (k_of l D Y ad N hI hN _ hL3 (nI k) 2) (cwVm 2 F.2.2.2.2.1 (fun _ h => h) mw_445 mw_717 mw_443 mw_444 mw_2 rfl rfl ydX7_of ⟨by decide, by decide⟩) (by omega) (ls_at hL3) rfl rfl hl.1 rfl (Nat.le_of_ble_eq_true rfl) dL_isPart_598 ⟨Nat.zero_le _, Nat.zero_le _⟩ (fun r18 C2 H locs hq hP hS => ?_)
  obtain ⟨hw18, hr18⟩ := hq; rw [hw18] at hP
  have hr18 := hr18.trans ((of_2 hg4 hkn hn).trans e7)
  subst hr18
  refine lv_iload F.1 F.2.1 dL_isPart_601 (lv_at hl 1 rfl) ?_
  refine lv_iconst (v := 1) F.1 F.2.1 dL_isPart_603 (by decide) ?_
  refine lv_iadd F.1 F.2.1 dL_isPart_604 ?_
  refine lv_icmp_ne (tgt := 612) F.1 F.2.1 dL_isPart_605 (by decide) (fun c28 => False.elim (c28 rfl)) (fun c28 => ?_)
  refine lv_iconst (v := 1) F.1 F.2.1 dL_isPart_608 (by decide) ?_
  refine lv_goto (tgt := 613) F.1 F.2.1 dL_isPart_609 (by decide) ?_
  refine lv_istore (lv' := [(10, .int (1)), (9, .int (f (63 + 5 * k))), (8, .int (f 15)), (7, .int (nI k)), (6, .int (1)), (5, .int (valAt f k)), (4, .int (kd)), (3, .int (nI k)), (2, .int (g1 8)), (1, .ref (ad 170)), (0, .ref (ad 0))]) F.1 F.2.1 dL_isPart_613 hl (by decide) rfl (fun ls hl => ?_)
  refine lv_iload F.1 F.2.1 dL_isPart_615 (lv_at hl 0 rfl) ?_
  exact w_zret F hr hlocks hP hS (Or.inr rfl) dL_isPart_617 ⟨rfl, hL3, _, hH3⟩
set_option maxRecDepth 20000 in
set_option maxHeartbeats 4000000 in
theorem ip_tail_2 {p : Program} {l : Launch} {e : Env} {s : State} {m : MethodId} {below : List Frame} {meth : Method} {c : Code} {args : Array Value} {D : va_G} {Y : Nat → ClassId} {ad : Nat → Nat} {N : Nat} (hI : wI ad N) (hN : 171 ≤ N) (F : wFix p s m c args cL_isPart RL 11 D Y ad N) (hr : meth.sig.returnType = some .boolean) (hlocks : meth.locks = false) {C : Nat → va_E} {f : Nat → Int32} {sl : Nat → Nat → Int32} {sv : Nat → Int32} {hv : Nat → Int32} {B : Int} {H : Heap} {locs : List Loc} (hP : wP D ad N C H) (hS : va_S (wA ad N) s.heap H locs) (hL : kLS Y ad C f sl sv) (hH : C 170 = .inl (Y 0, 8, .inl hv)) (hok : okRow B f) (hB0 : 0 ≤ B) (hB : B + 5000 ≤ 900000000) (h5 : f 5 = 1) (h11 : f 11 = 0) {k n : Nat} (h10 : f 10 = nI k) (h4 : f 4 = nI n) (hkn : k < n) (hn : n ≤ 20) {kd : Int32} {g1 : Nat → Int32} (eg : T_rolled 1 f 0 = g1) (hw : T_hw f k = 2) (hv_0 : hv 0 = f 6) (hv_1 : hv 1 = g1 7) (hv_3 : hv 3 = g1 9) (hv_6 : hv 6 = f 12) (hv_7 : hv 7 = f 13) {ls : Array Slot} (hl : lv_has ls 11 [(6, .int 2), (5, .int (valAt f k)), (4, .int kd), (3, .int (nI k)), (2, .int (g1 8)), (1, .ref (ad 170)), (0, .ref (ad 0))]) : W p l e { frames := 7, cells := 0, slots := 0, locals := 151 } s m args below meth c H locs 0 0 (MQ below (wQi D ad N (fun r C' => r = 1 ∧ kLT Y ad C' g1 sl sv)) args s 0 0 (wA ad N)) (F0 m 330 ls []) := by
  obtain ⟨hg4, hg5, hg6, hg12, hg13, -, -, -, hg11, hg10⟩ := ip_facts hok (by omega) h5 h11 h10 h4 hkn hn eg
  rw [hw] at hg11 hg10
  have hg10 : g1 10 = nI k := hg10.trans (if_neg (by decide))
  have okg : okRow (B + 25) g1 := by rw [← eg]; exact okRow_roll (g := 0) 1 (by omega) hok h5 h11
  obtain ⟨e1, e2, e3, e4, e5, e6, e7⟩ := ip_end hok (by omega) h5 h11 h10 h4 hkn hn eg (w := 2) hw (by decide) (by decide)
  have e4 : g1 22 = 2 := e4
  have e5 : g1 23 = nI k := e5.trans hg10
  have e7 : g1 (64 + 5 * k) = f (64 + 5 * k) + 1 := by have q := e7 (by decide); rw [show 62 + 5 * k + 2 = 64 + 5 * k by omega] at q; exact q
  refine lv_iload F.1 F.2.1 dL_isPart_330 (lv_at hl 0 rfl) ?_
  refine lv_if_le (tgt := 345) F.1 F.2.1 dL_isPart_332 (by decide) (fun c1 => False.elim (by revert c1; decide)) (fun c1 => ?_)
  refine lv_iload F.1 F.2.1 dL_isPart_335 (lv_at hl 0 rfl) ?_
  refine lv_iconst (v := 4) F.1 F.2.1 dL_isPart_337 (by decide) ?_
  refine lv_icmp_ge (tgt := 345) F.1 F.2.1 dL_isPart_338 (by decide) (fun c2 => False.elim (by revert c2; decide)) (fun c2 => ?_)
  refine lv_iload_n F.1 F.2.1 dL_isPart_341 rfl (lv_at hl 3 rfl) ?_
  refine lv_goto (tgt := 348) F.1 F.2.1 dL_isPart_342 (by decide) ?_
  refine lv_istore (lv' := [(7, .int (nI k)), (6, .int (2)), (5, .int (valAt f k)), (4, .int (kd)), (3, .int (nI k)), (2, .int (g1 8)), (1, .ref (ad 170)), (0, .ref (ad 0))]) F.1 F.2.1 dL_isPart_348 hl (by decide) rfl (fun ls hl => ?_)
  refine lv_iload F.1 F.2.1 dL_isPart_350 (lv_at hl 1 rfl) ?_
  refine lv_if_ne (tgt := 359) F.1 F.2.1 dL_isPart_352 (by decide) (fun c3 => ?_) (fun c3 => False.elim (by revert c3; decide))
  refine lv_aload_n F.1 F.2.1 dL_isPart_359 rfl (lv_at hl 7 rfl) ?_
  refine lv_iconst (v := 1) F.1 F.2.1 dL_isPart_360 (by decide) ?_
  refine lv_iload F.1 F.2.1 dL_isPart_361 (lv_at hl 1 rfl) ?_
  refine lv_iadd F.1 F.2.1 dL_isPart_363 ?_
  refine lv_topi (fun v4 ev4 => ?_)
  have ev4 : v4 = 3 := ev4.trans (by decide)
  subst ev4
  refine w_calli F hP hS (k_count l D Y ad N hI hN _ hL 3 (by decide) hok) (cwVm 1 F.2.2.2.2.1 (fun _ h => h) mw_482 mw_716 mw_480 mw_481 mw_2 rfl rfl ydX7_count ⟨by decide, by decide⟩) (by omega) (ls_at hL) rfl rfl hl.1 rfl (Nat.le_of_ble_eq_true rfl) dL_isPart_364 ⟨Nat.zero_le _, Nat.zero_le _⟩ (fun r1 C2 H locs hq hP hS => ?_)
  obtain ⟨hw1, hr1⟩ := hq; rw [hw1] at hP
  have hr1 := hr1.trans cn_3
  subst hr1
  refine lv_istore (lv' := [(8, .int (f 16)), (7, .int (nI k)), (6, .int (2)), (5, .int (valAt f k)), (4, .int (kd)), (3, .int (nI k)), (2, .int (g1 8)), (1, .ref (ad 170)), (0, .ref (ad 0))]) F.1 F.2.1 dL_isPart_367 hl (by decide) rfl (fun ls hl => ?_)
  refine lv_iload F.1 F.2.1 dL_isPart_369 (lv_at hl 2 rfl) ?_
  refine lv_if_eq (tgt := 380) F.1 F.2.1 dL_isPart_371 (by decide) (fun c5 => False.elim (by revert c5; decide)) (fun c5 => ?_)
  refine lv_iload F.1 F.2.1 dL_isPart_374 (lv_at hl 2 rfl) ?_
  refine lv_iconst (v := 4) F.1 F.2.1 dL_isPart_376 (by decide) ?_
  refine lv_icmp_ne (tgt := 384) F.1 F.2.1 dL_isPart_377 (by decide) (fun c6 => ?_) (fun c6 => False.elim (by revert c6; decide))
  refine lv_aload_n F.1 F.2.1 dL_isPart_384 rfl (lv_at hl 8 rfl) ?_
  refine lv_iload_n F.1 F.2.1 dL_isPart_385 rfl (lv_at hl 5 rfl) ?_
  refine lv_iconst (v := 1) F.1 F.2.1 dL_isPart_386 (by decide) ?_
  refine lv_iload F.1 F.2.1 dL_isPart_387 (lv_at hl 2 rfl) ?_
  refine lv_iadd F.1 F.2.1 dL_isPart_389 ?_
  refine lv_topi (fun v7 ev7 => ?_)
  have ev7 : v7 = 3 := ev7.trans (by decide)
  subst ev7
  refine w_calli F hP hS (k_of l D Y ad N hI hN _ hL (nI k) 3) (cwVm 2 F.2.2.2.2.1 (fun _ h => h) mw_445 mw_717 mw_443 mw_444 mw_2 rfl rfl ydX7_of ⟨by decide, by decide⟩) (by omega) (ls_at hL) rfl rfl hl.1 rfl (Nat.le_of_ble_eq_true rfl) dL_isPart_390 ⟨Nat.zero_le _, Nat.zero_le _⟩ (fun r2 C2 H locs hq hP hS => ?_)
  obtain ⟨hw2, hr2⟩ := hq; rw [hw2] at hP
  have hr2 := hr2.trans (of_3 h4 hkn hn)
  subst hr2
  refine lv_istore (lv' := [(9, .int (f (64 + 5 * k))), (8, .int (f 16)), (7, .int (nI k)), (6, .int (2)), (5, .int (valAt f k)), (4, .int (kd)), (3, .int (nI k)), (2, .int (g1 8)), (1, .ref (ad 170)), (0, .ref (ad 0))]) F.1 F.2.1 dL_isPart_393 hl (by decide) rfl (fun ls hl => ?_)
  refine lv_aload_n F.1 F.2.1 dL_isPart_395 rfl (lv_at hl 9 rfl) ?_
  refine lv_iconst (v := 1) F.1 F.2.1 dL_isPart_396 (by decide) ?_
  refine w_calli F hP hS (k_roll l D Y ad N hI hN _ hL h5 h11 hok (by omega) hB0) (cwVm 1 F.2.2.2.2.1 (fun _ h => h) mw_278 mw_720 mw_276 mw_277 mw_2 rfl rfl ydX7_roll ⟨by decide, by decide⟩) (by omega) (ls_at hL) rfl rfl hl.1 rfl (Nat.le_of_ble_eq_true rfl) dL_isPart_397 ⟨Nat.zero_le _, Nat.zero_le _⟩ (fun r3 C3 H locs hq hP hS => ?_)
  obtain ⟨hr3, hL3, hz3⟩ := hq
  have hH3 := hz3.trans hH
  have hr3 := hr3.trans (show T_rolled 1 f 0 11 = 2 by rw [eg]; exact hg11)
  subst hr3
  rw [eg] at hL3
  refine lv_iload F.1 F.2.1 dL_isPart_400 (lv_at hl 3 rfl) ?_
  refine lv_icmp_ne (tgt := 501) F.1 F.2.1 dL_isPart_402 (by decide) (fun c8 => False.elim (c8 rfl)) (fun c8 => ?_)
  refine lv_aload_n F.1 F.2.1 dL_isPart_405 rfl (lv_at hl 9 rfl) ?_
  refine lv_iconst (v := 0) F.1 F.2.1 dL_isPart_406 (by decide) ?_
  refine w_calli F hP hS (k_ofHoop l D Y ad N hI hN _ hL3 0) (cwVm 1 F.2.2.2.2.1 (fun _ h => h) mw_454 mw_719 mw_452 mw_453 mw_2 rfl rfl ydX7_ofHoop ⟨by decide, by decide⟩) (by omega) (ls_at hL3) rfl rfl hl.1 rfl (Nat.le_of_ble_eq_true rfl) dL_isPart_407 ⟨Nat.zero_le _, Nat.zero_le _⟩ (fun r4 C2 H locs hq hP hS => ?_)
  obtain ⟨hw4, hr4⟩ := hq; rw [hw4] at hP
  have hr4 := hr4.trans ((oh_0 hg5).trans hg6)
  subst hr4
  refine lv_aload_n F.1 F.2.1 dL_isPart_410 rfl (lv_at hl 8 rfl) ?_
  refine lv_iconst (v := 0) F.1 F.2.1 dL_isPart_411 (by decide) ?_
  refine w_iald F hP (by omega) hH3 (k := 0) rfl (by decide) (Nat.le_of_ble_eq_true rfl) (v := f 6) hv_0 dL_isPart_412 ?_
  refine lv_icmp_ne (tgt := 501) F.1 F.2.1 dL_isPart_413 (by decide) (fun c9 => False.elim (c9 rfl)) (fun c9 => ?_)
  refine lv_aload_n F.1 F.2.1 dL_isPart_416 rfl (lv_at hl 9 rfl) ?_
  refine lv_iconst (v := 1) F.1 F.2.1 dL_isPart_417 (by decide) ?_
  refine w_calli F hP hS (k_ofHoop l D Y ad N hI hN _ hL3 1) (cwVm 1 F.2.2.2.2.1 (fun _ h => h) mw_454 mw_719 mw_452 mw_453 mw_2 rfl rfl ydX7_ofHoop ⟨by decide, by decide⟩) (by omega) (ls_at hL3) rfl rfl hl.1 rfl (Nat.le_of_ble_eq_true rfl) dL_isPart_418 ⟨Nat.zero_le _, Nat.zero_le _⟩ (fun r5 C2 H locs hq hP hS => ?_)
  obtain ⟨hw5, hr5⟩ := hq; rw [hw5] at hP
  have hr5 := hr5.trans (oh_1 hg5)
  subst hr5
  refine lv_aload_n F.1 F.2.1 dL_isPart_421 rfl (lv_at hl 8 rfl) ?_
  refine lv_iconst (v := 1) F.1 F.2.1 dL_isPart_422 (by decide) ?_
  refine w_iald F hP (by omega) hH3 (k := 1) rfl (by decide) (Nat.le_of_ble_eq_true rfl) (v := g1 7) hv_1 dL_isPart_423 ?_
  refine lv_icmp_ne (tgt := 501) F.1 F.2.1 dL_isPart_424 (by decide) (fun c10 => False.elim (c10 rfl)) (fun c10 => ?_)
  refine lv_aload_n F.1 F.2.1 dL_isPart_427 rfl (lv_at hl 9 rfl) ?_
  refine lv_iconst (v := 2) F.1 F.2.1 dL_isPart_428 (by decide) ?_
  refine w_calli F hP hS (k_ofHoop l D Y ad N hI hN _ hL3 2) (cwVm 1 F.2.2.2.2.1 (fun _ h => h) mw_454 mw_719 mw_452 mw_453 mw_2 rfl rfl ydX7_ofHoop ⟨by decide, by decide⟩) (by omega) (ls_at hL3) rfl rfl hl.1 rfl (Nat.le_of_ble_eq_true rfl) dL_isPart_429 ⟨Nat.zero_le _, Nat.zero_le _⟩ (fun r6 C2 H locs hq hP hS => ?_)
  obtain ⟨hw6, hr6⟩ := hq; rw [hw6] at hP
  have hr6 := hr6.trans (oh_2 hg5)
  subst hr6
  refine lv_iload_n F.1 F.2.1 dL_isPart_432 rfl (lv_at hl 7 rfl) ?_
  refine lv_sipush (v := 500) F.1 F.2.1 dL_isPart_433 (by decide) ?_
  refine lv_iadd F.1 F.2.1 dL_isPart_436 ?_
  refine lv_icmp_ne (tgt := 501) F.1 F.2.1 dL_isPart_437 (by decide) (fun c11 => False.elim (c11 rfl)) (fun c11 => ?_)
  refine lv_aload_n F.1 F.2.1 dL_isPart_440 rfl (lv_at hl 9 rfl) ?_
  refine lv_iconst (v := 3) F.1 F.2.1 dL_isPart_441 (by decide) ?_
  refine w_calli F hP hS (k_ofHoop l D Y ad N hI hN _ hL3 3) (cwVm 1 F.2.2.2.2.1 (fun _ h => h) mw_454 mw_719 mw_452 mw_453 mw_2 rfl rfl ydX7_ofHoop ⟨by decide, by decide⟩) (by omega) (ls_at hL3) rfl rfl hl.1 rfl (Nat.le_of_ble_eq_true rfl) dL_isPart_442 ⟨Nat.zero_le _, Nat.zero_le _⟩ (fun r7 C2 H locs hq hP hS => ?_)
  obtain ⟨hw7, hr7⟩ := hq; rw [hw7] at hP
  have hr7 := hr7.trans (oh_3 hg5)
  subst hr7
  refine lv_aload_n F.1 F.2.1 dL_isPart_445 rfl (lv_at hl 8 rfl) ?_
  refine lv_iconst (v := 3) F.1 F.2.1 dL_isPart_446 (by decide) ?_
  refine w_iald F hP (by omega) hH3 (k := 3) rfl (by decide) (Nat.le_of_ble_eq_true rfl) (v := g1 9) hv_3 dL_isPart_447 ?_
  refine lv_icmp_ne (tgt := 501) F.1 F.2.1 dL_isPart_448 (by decide) (fun c12 => False.elim (c12 rfl)) (fun c12 => ?_)
  refine lv_aload_n F.1 F.2.1 dL_isPart_451 rfl (lv_at hl 9 rfl) ?_
  refine lv_iconst (v := 4) F.1 F.2.1 dL_isPart_452 (by decide) ?_
  refine w_calli F hP hS (k_ofHoop l D Y ad N hI hN _ hL3 4) (cwVm 1 F.2.2.2.2.1 (fun _ h => h) mw_454 mw_719 mw_452 mw_453 mw_2 rfl rfl ydX7_ofHoop ⟨by decide, by decide⟩) (by omega) (ls_at hL3) rfl rfl hl.1 rfl (Nat.le_of_ble_eq_true rfl) dL_isPart_453 ⟨Nat.zero_le _, Nat.zero_le _⟩ (fun r8 C2 H locs hq hP hS => ?_)
  obtain ⟨hw8, hr8⟩ := hq; rw [hw8] at hP
  have hr8 := hr8.trans ((oh_4 hg5).trans hg10)
  subst hr8
  refine lv_iload F.1 F.2.1 dL_isPart_456 (lv_at hl 2 rfl) ?_
  refine lv_icmp_ne (tgt := 501) F.1 F.2.1 dL_isPart_458 (by decide) (fun c13 => False.elim (c13 rfl)) (fun c13 => ?_)
  refine lv_aload_n F.1 F.2.1 dL_isPart_461 rfl (lv_at hl 9 rfl) ?_
  refine lv_iconst (v := 5) F.1 F.2.1 dL_isPart_462 (by decide) ?_
  refine w_calli F hP hS (k_ofHoop l D Y ad N hI hN _ hL3 5) (cwVm 1 F.2.2.2.2.1 (fun _ h => h) mw_454 mw_719 mw_452 mw_453 mw_2 rfl rfl ydX7_ofHoop ⟨by decide, by decide⟩) (by omega) (ls_at hL3) rfl rfl hl.1 rfl (Nat.le_of_ble_eq_true rfl) dL_isPart_463 ⟨Nat.zero_le _, Nat.zero_le _⟩ (fun r9 C2 H locs hq hP hS => ?_)
  obtain ⟨hw9, hr9⟩ := hq; rw [hw9] at hP
  have hr9 := hr9.trans ((oh_5 hg5).trans hg11)
  subst hr9
  refine lv_iload F.1 F.2.1 dL_isPart_466 (lv_at hl 3 rfl) ?_
  refine lv_icmp_ne (tgt := 501) F.1 F.2.1 dL_isPart_468 (by decide) (fun c14 => False.elim (c14 rfl)) (fun c14 => ?_)
  refine lv_aload_n F.1 F.2.1 dL_isPart_471 rfl (lv_at hl 9 rfl) ?_
  refine lv_bipush (v := 6) F.1 F.2.1 dL_isPart_472 (by decide) ?_
  refine w_calli F hP hS (k_ofHoop l D Y ad N hI hN _ hL3 6) (cwVm 1 F.2.2.2.2.1 (fun _ h => h) mw_454 mw_719 mw_452 mw_453 mw_2 rfl rfl ydX7_ofHoop ⟨by decide, by decide⟩) (by omega) (ls_at hL3) rfl rfl hl.1 rfl (Nat.le_of_ble_eq_true rfl) dL_isPart_474 ⟨Nat.zero_le _, Nat.zero_le _⟩ (fun r10 C2 H locs hq hP hS => ?_)
  obtain ⟨hw10, hr10⟩ := hq; rw [hw10] at hP
  have hr10 := hr10.trans ((oh_6 hg5).trans hg12)
  subst hr10
  refine lv_aload_n F.1 F.2.1 dL_isPart_477 rfl (lv_at hl 8 rfl) ?_
  refine lv_bipush (v := 6) F.1 F.2.1 dL_isPart_478 (by decide) ?_
  refine w_iald F hP (by omega) hH3 (k := 6) rfl (by decide) (Nat.le_of_ble_eq_true rfl) (v := f 12) hv_6 dL_isPart_480 ?_
  refine lv_icmp_ne (tgt := 501) F.1 F.2.1 dL_isPart_481 (by decide) (fun c15 => False.elim (c15 rfl)) (fun c15 => ?_)
  refine lv_aload_n F.1 F.2.1 dL_isPart_484 rfl (lv_at hl 9 rfl) ?_
  refine lv_bipush (v := 7) F.1 F.2.1 dL_isPart_485 (by decide) ?_
  refine w_calli F hP hS (k_ofHoop l D Y ad N hI hN _ hL3 7) (cwVm 1 F.2.2.2.2.1 (fun _ h => h) mw_454 mw_719 mw_452 mw_453 mw_2 rfl rfl ydX7_ofHoop ⟨by decide, by decide⟩) (by omega) (ls_at hL3) rfl rfl hl.1 rfl (Nat.le_of_ble_eq_true rfl) dL_isPart_487 ⟨Nat.zero_le _, Nat.zero_le _⟩ (fun r11 C2 H locs hq hP hS => ?_)
  obtain ⟨hw11, hr11⟩ := hq; rw [hw11] at hP
  have hr11 := hr11.trans ((oh_7 hg5).trans hg13)
  subst hr11
  refine lv_aload_n F.1 F.2.1 dL_isPart_490 rfl (lv_at hl 8 rfl) ?_
  refine lv_bipush (v := 7) F.1 F.2.1 dL_isPart_491 (by decide) ?_
  refine w_iald F hP (by omega) hH3 (k := 7) rfl (by decide) (Nat.le_of_ble_eq_true rfl) (v := f 13) hv_7 dL_isPart_493 ?_
  refine lv_icmp_ne (tgt := 501) F.1 F.2.1 dL_isPart_494 (by decide) (fun c16 => False.elim (c16 rfl)) (fun c16 => ?_)
  refine lv_iconst (v := 1) F.1 F.2.1 dL_isPart_497 (by decide) ?_
  refine lv_goto (tgt := 502) F.1 F.2.1 dL_isPart_498 (by decide) ?_
  refine lv_istore (lv' := [(10, .int (1)), (9, .int (f (64 + 5 * k))), (8, .int (f 16)), (7, .int (nI k)), (6, .int (2)), (5, .int (valAt f k)), (4, .int (kd)), (3, .int (nI k)), (2, .int (g1 8)), (1, .ref (ad 170)), (0, .ref (ad 0))]) F.1 F.2.1 dL_isPart_502 hl (by decide) rfl (fun ls hl => ?_)
  refine lv_iload F.1 F.2.1 dL_isPart_504 (lv_at hl 4 rfl) ?_
  refine lv_if_le (tgt := 615) F.1 F.2.1 dL_isPart_506 (by decide) (fun c17 => False.elim (by revert c17; decide)) (fun c17 => ?_)
  refine lv_iload F.1 F.2.1 dL_isPart_509 (lv_at hl 0 rfl) ?_
  refine lv_if_eq (tgt := 612) F.1 F.2.1 dL_isPart_511 (by decide) (fun c18 => False.elim (by revert c18; decide)) (fun c18 => ?_)
  refine lv_aload_n F.1 F.2.1 dL_isPart_514 rfl (lv_at hl 10 rfl) ?_
  refine lv_iconst (v := 1) F.1 F.2.1 dL_isPart_515 (by decide) ?_
  refine lv_iload F.1 F.2.1 dL_isPart_516 (lv_at hl 4 rfl) ?_
  refine lv_iadd F.1 F.2.1 dL_isPart_518 ?_
  refine lv_topi (fun v19 ev19 => ?_)
  have ev19 : v19 = 3 := ev19.trans (by decide)
  subst ev19
  refine w_calli F hP hS (k_count l D Y ad N hI hN _ hL3 3 (by decide) okg) (cwVm 1 F.2.2.2.2.1 (fun _ h => h) mw_482 mw_716 mw_480 mw_481 mw_2 rfl rfl ydX7_count ⟨by decide, by decide⟩) (by omega) (ls_at hL3) rfl rfl hl.1 rfl (Nat.le_of_ble_eq_true rfl) dL_isPart_519 ⟨Nat.zero_le _, Nat.zero_le _⟩ (fun r12 C2 H locs hq hP hS => ?_)
  obtain ⟨hw12, hr12⟩ := hq; rw [hw12] at hP
  have hr12 := hr12.trans (cn_3.trans e1)
  subst hr12
  refine lv_iload F.1 F.2.1 dL_isPart_522 (lv_at hl 2 rfl) ?_
  refine lv_iconst (v := 1) F.1 F.2.1 dL_isPart_524 (by decide) ?_
  refine lv_iadd F.1 F.2.1 dL_isPart_525 ?_
  refine lv_icmp_ne (tgt := 612) F.1 F.2.1 dL_isPart_526 (by decide) (fun c20 => False.elim (c20 rfl)) (fun c20 => ?_)
  refine lv_aload_n F.1 F.2.1 dL_isPart_529 rfl (lv_at hl 10 rfl) ?_
  refine lv_iconst (v := 0) F.1 F.2.1 dL_isPart_530 (by decide) ?_
  refine lv_iconst (v := 0) F.1 F.2.1 dL_isPart_531 (by decide) ?_
  refine w_calli F hP hS (k_run l D Y ad N hI hN _ hL3 0 0) (cwVm 2 F.2.2.2.2.1 (fun _ h => h) mw_465 mw_718 mw_463 mw_464 mw_2 rfl rfl ydX7_run ⟨by decide, by decide⟩) (by omega) (ls_at hL3) rfl rfl hl.1 rfl (Nat.le_of_ble_eq_true rfl) dL_isPart_532 ⟨Nat.zero_le _, Nat.zero_le _⟩ (fun r13 C2 H locs hq hP hS => ?_)
  obtain ⟨hw13, hr13⟩ := hq; rw [hw13] at hP
  have hr13 := hr13.trans ((rn_0_0 e2).trans e3)
  subst hr13
  refine lv_aload_n F.1 F.2.1 dL_isPart_535 rfl (lv_at hl 9 rfl) ?_
  refine lv_iconst (v := 0) F.1 F.2.1 dL_isPart_536 (by decide) ?_
  refine w_iald F hP (by omega) hH3 (k := 0) rfl (by decide) (Nat.le_of_ble_eq_true rfl) (v := f 6) hv_0 dL_isPart_537 ?_
  refine lv_icmp_ne (tgt := 612) F.1 F.2.1 dL_isPart_538 (by decide) (fun c21 => False.elim (c21 rfl)) (fun c21 => ?_)
  refine lv_aload_n F.1 F.2.1 dL_isPart_541 rfl (lv_at hl 10 rfl) ?_
  refine lv_iconst (v := 0) F.1 F.2.1 dL_isPart_542 (by decide) ?_
  refine lv_iconst (v := 1) F.1 F.2.1 dL_isPart_543 (by decide) ?_
  refine w_calli F hP hS (k_run l D Y ad N hI hN _ hL3 0 1) (cwVm 2 F.2.2.2.2.1 (fun _ h => h) mw_465 mw_718 mw_463 mw_464 mw_2 rfl rfl ydX7_run ⟨by decide, by decide⟩) (by omega) (ls_at hL3) rfl rfl hl.1 rfl (Nat.le_of_ble_eq_true rfl) dL_isPart_544 ⟨Nat.zero_le _, Nat.zero_le _⟩ (fun r14 C2 H locs hq hP hS => ?_)
  obtain ⟨hw14, hr14⟩ := hq; rw [hw14] at hP
  have hr14 := hr14.trans ((rn_0_1 e2).trans e4)
  subst hr14
  refine lv_iload F.1 F.2.1 dL_isPart_547 (lv_at hl 4 rfl) ?_
  refine lv_icmp_ne (tgt := 612) F.1 F.2.1 dL_isPart_549 (by decide) (fun c22 => False.elim (c22 rfl)) (fun c22 => ?_)
  refine lv_aload_n F.1 F.2.1 dL_isPart_552 rfl (lv_at hl 10 rfl) ?_
  refine lv_iconst (v := 0) F.1 F.2.1 dL_isPart_553 (by decide) ?_
  refine lv_iconst (v := 2) F.1 F.2.1 dL_isPart_554 (by decide) ?_
  refine w_calli F hP hS (k_run l D Y ad N hI hN _ hL3 0 2) (cwVm 2 F.2.2.2.2.1 (fun _ h => h) mw_465 mw_718 mw_463 mw_464 mw_2 rfl rfl ydX7_run ⟨by decide, by decide⟩) (by omega) (ls_at hL3) rfl rfl hl.1 rfl (Nat.le_of_ble_eq_true rfl) dL_isPart_555 ⟨Nat.zero_le _, Nat.zero_le _⟩ (fun r15 C2 H locs hq hP hS => ?_)
  obtain ⟨hw15, hr15⟩ := hq; rw [hw15] at hP
  have hr15 := hr15.trans ((rn_0_2 e2).trans e5)
  subst hr15
  refine lv_iload F.1 F.2.1 dL_isPart_558 (lv_at hl 3 rfl) ?_
  refine lv_icmp_ne (tgt := 612) F.1 F.2.1 dL_isPart_560 (by decide) (fun c23 => False.elim (c23 rfl)) (fun c23 => ?_)
  refine lv_aload_n F.1 F.2.1 dL_isPart_563 rfl (lv_at hl 10 rfl) ?_
  refine lv_iconst (v := 0) F.1 F.2.1 dL_isPart_564 (by decide) ?_
  refine lv_iconst (v := 3) F.1 F.2.1 dL_isPart_565 (by decide) ?_
  refine w_calli F hP hS (k_run l D Y ad N hI hN _ hL3 0 3) (cwVm 2 F.2.2.2.2.1 (fun _ h => h) mw_465 mw_718 mw_463 mw_464 mw_2 rfl rfl ydX7_run ⟨by decide, by decide⟩) (by omega) (ls_at hL3) rfl rfl hl.1 rfl (Nat.le_of_ble_eq_true rfl) dL_isPart_566 ⟨Nat.zero_le _, Nat.zero_le _⟩ (fun r16 C2 H locs hq hP hS => ?_)
  obtain ⟨hw16, hr16⟩ := hq; rw [hw16] at hP
  have hr16 := hr16.trans ((rn_0_3 e2).trans e6)
  subst hr16
  refine lv_aload_n F.1 F.2.1 dL_isPart_569 rfl (lv_at hl 9 rfl) ?_
  refine lv_bipush (v := 6) F.1 F.2.1 dL_isPart_570 (by decide) ?_
  refine w_iald F hP (by omega) hH3 (k := 6) rfl (by decide) (Nat.le_of_ble_eq_true rfl) (v := f 12) hv_6 dL_isPart_572 ?_
  refine lv_icmp_ne (tgt := 612) F.1 F.2.1 dL_isPart_573 (by decide) (fun c24 => False.elim (c24 rfl)) (fun c24 => ?_)
  refine lv_aload_n F.1 F.2.1 dL_isPart_576 rfl (lv_at hl 10 rfl) ?_
  refine lv_iconst (v := 1) F.1 F.2.1 dL_isPart_577 (by decide) ?_
  refine w_calli F hP hS (k_roll_n l D Y ad N hI hN _ hL3 (fun q => absurd (hg11.symm.trans q.2) (by decide)) okg (by omega)) (cwVm 1 F.2.2.2.2.1 (fun _ h => h) mw_278 mw_720 mw_276 mw_277 mw_2 rfl rfl ydX7_roll ⟨by decide, by decide⟩) (by omega) (ls_at hL3) rfl rfl hl.1 rfl (Nat.le_of_ble_eq_true rfl) dL_isPart_578 ⟨Nat.zero_le _, Nat.zero_le _⟩ (fun r17 C2 H locs hq hP hS => ?_)
  obtain ⟨hw17, hr17⟩ := hq; rw [hw17] at hP
  subst hr17
  refine lv_bipush (v := (-5)) F.1 F.2.1 dL_isPart_581 (by decide) ?_
  refine lv_icmp_ne (tgt := 612) F.1 F.2.1 dL_isPart_583 (by decide) (fun c25 => False.elim (c25 rfl)) (fun c25 => ?_)
  refine lv_iload F.1 F.2.1 dL_isPart_586 (lv_at hl 4 rfl) ?_
  refine lv_iconst (v := 4) F.1 F.2.1 dL_isPart_588 (by decide) ?_
  refine lv_icmp_eq (tgt := 608) F.1 F.2.1 dL_isPart_589 (by decide) (fun c26 => False.elim (by revert c26; decide)) (fun c26 => ?_)
  refine lv_aload_n F.1 F.2.1 dL_isPart_592 rfl (lv_at hl 10 rfl) ?_
  refine lv_iload_n F.1 F.2.1 dL_isPart_593 rfl (lv_at hl 7 rfl) ?_
  refine lv_iconst (v := 1) F.1 F.2.1 dL_isPart_594 (by decide) ?_
  refine lv_iload F.1 F.2.1 dL_isPart_595 (lv_at hl 4 rfl) ?_
  refine lv_iadd F.1 F.2.1 dL_isPart_597 ?_
  refine lv_topi (fun v27 ev27 => ?_)
  have ev27 : v27 = 3 := ev27.trans (by decide)
  subst ev27
  refine w_calli F hP hS (k_of l D Y ad N hI hN _ hL3 (nI k) 3) (cwVm 2 F.2.2.2.2.1 (fun _ h => h) mw_445 mw_717 mw_443 mw_444 mw_2 rfl rfl ydX7_of ⟨by decide, by decide⟩) (by omega) (ls_at hL3) rfl rfl hl.1 rfl (Nat.le_of_ble_eq_true rfl) dL_isPart_598 ⟨Nat.zero_le _, Nat.zero_le _⟩ (fun r18 C2 H locs hq hP hS => ?_)
  obtain ⟨hw18, hr18⟩ := hq; rw [hw18] at hP
  have hr18 := hr18.trans ((of_3 hg4 hkn hn).trans e7)
  subst hr18
  refine lv_iload F.1 F.2.1 dL_isPart_601 (lv_at hl 1 rfl) ?_
  refine lv_iconst (v := 1) F.1 F.2.1 dL_isPart_603 (by decide) ?_
  refine lv_iadd F.1 F.2.1 dL_isPart_604 ?_
  refine lv_icmp_ne (tgt := 612) F.1 F.2.1 dL_isPart_605 (by decide) (fun c28 => False.elim (c28 rfl)) (fun c28 => ?_)
  refine lv_iconst (v := 1) F.1 F.2.1 dL_isPart_608 (by decide) ?_
  refine lv_goto (tgt := 613) F.1 F.2.1 dL_isPart_609 (by decide) ?_
  refine lv_istore (lv' := [(10, .int (1)), (9, .int (f (64 + 5 * k))), (8, .int (f 16)), (7, .int (nI k)), (6, .int (2)), (5, .int (valAt f k)), (4, .int (kd)), (3, .int (nI k)), (2, .int (g1 8)), (1, .ref (ad 170)), (0, .ref (ad 0))]) F.1 F.2.1 dL_isPart_613 hl (by decide) rfl (fun ls hl => ?_)
  refine lv_iload F.1 F.2.1 dL_isPart_615 (lv_at hl 0 rfl) ?_
  exact w_zret F hr hlocks hP hS (Or.inr rfl) dL_isPart_617 ⟨rfl, hL3, _, hH3⟩
set_option maxRecDepth 20000 in
set_option maxHeartbeats 4000000 in
theorem ip_tail_3 {p : Program} {l : Launch} {e : Env} {s : State} {m : MethodId} {below : List Frame} {meth : Method} {c : Code} {args : Array Value} {D : va_G} {Y : Nat → ClassId} {ad : Nat → Nat} {N : Nat} (hI : wI ad N) (hN : 171 ≤ N) (F : wFix p s m c args cL_isPart RL 11 D Y ad N) (hr : meth.sig.returnType = some .boolean) (hlocks : meth.locks = false) {C : Nat → va_E} {f : Nat → Int32} {sl : Nat → Nat → Int32} {sv : Nat → Int32} {hv : Nat → Int32} {B : Int} {H : Heap} {locs : List Loc} (hP : wP D ad N C H) (hS : va_S (wA ad N) s.heap H locs) (hL : kLS Y ad C f sl sv) (hH : C 170 = .inl (Y 0, 8, .inl hv)) (hok : okRow B f) (hB0 : 0 ≤ B) (hB : B + 5000 ≤ 900000000) (h5 : f 5 = 1) (h11 : f 11 = 0) {k n : Nat} (h10 : f 10 = nI k) (h4 : f 4 = nI n) (hkn : k < n) (hn : n ≤ 20) {kd : Int32} {g1 : Nat → Int32} (eg : T_rolled 1 f 0 = g1) (hw : T_hw f k = 3) (hv_0 : hv 0 = f 6) (hv_1 : hv 1 = g1 7) (hv_3 : hv 3 = g1 9) (hv_6 : hv 6 = f 12) (hv_7 : hv 7 = f 13) {ls : Array Slot} (hl : lv_has ls 11 [(6, .int 3), (5, .int (valAt f k)), (4, .int kd), (3, .int (nI k)), (2, .int (g1 8)), (1, .ref (ad 170)), (0, .ref (ad 0))]) : W p l e { frames := 7, cells := 0, slots := 0, locals := 151 } s m args below meth c H locs 0 0 (MQ below (wQi D ad N (fun r C' => r = 1 ∧ kLT Y ad C' g1 sl sv)) args s 0 0 (wA ad N)) (F0 m 330 ls []) := by
  obtain ⟨hg4, hg5, hg6, hg12, hg13, -, -, -, hg11, hg10⟩ := ip_facts hok (by omega) h5 h11 h10 h4 hkn hn eg
  rw [hw] at hg11 hg10
  have hg10 : g1 10 = nI k := hg10.trans (if_neg (by decide))
  have okg : okRow (B + 25) g1 := by rw [← eg]; exact okRow_roll (g := 0) 1 (by omega) hok h5 h11
  obtain ⟨e1, e2, e3, e4, e5, e6, e7⟩ := ip_end hok (by omega) h5 h11 h10 h4 hkn hn eg (w := 3) hw (by decide) (by decide)
  have e4 : g1 22 = 3 := e4
  have e5 : g1 23 = nI k := e5.trans hg10
  have e7 : g1 (65 + 5 * k) = f (65 + 5 * k) + 1 := by have q := e7 (by decide); rw [show 62 + 5 * k + 3 = 65 + 5 * k by omega] at q; exact q
  refine lv_iload F.1 F.2.1 dL_isPart_330 (lv_at hl 0 rfl) ?_
  refine lv_if_le (tgt := 345) F.1 F.2.1 dL_isPart_332 (by decide) (fun c1 => False.elim (by revert c1; decide)) (fun c1 => ?_)
  refine lv_iload F.1 F.2.1 dL_isPart_335 (lv_at hl 0 rfl) ?_
  refine lv_iconst (v := 4) F.1 F.2.1 dL_isPart_337 (by decide) ?_
  refine lv_icmp_ge (tgt := 345) F.1 F.2.1 dL_isPart_338 (by decide) (fun c2 => False.elim (by revert c2; decide)) (fun c2 => ?_)
  refine lv_iload_n F.1 F.2.1 dL_isPart_341 rfl (lv_at hl 3 rfl) ?_
  refine lv_goto (tgt := 348) F.1 F.2.1 dL_isPart_342 (by decide) ?_
  refine lv_istore (lv' := [(7, .int (nI k)), (6, .int (3)), (5, .int (valAt f k)), (4, .int (kd)), (3, .int (nI k)), (2, .int (g1 8)), (1, .ref (ad 170)), (0, .ref (ad 0))]) F.1 F.2.1 dL_isPart_348 hl (by decide) rfl (fun ls hl => ?_)
  refine lv_iload F.1 F.2.1 dL_isPart_350 (lv_at hl 1 rfl) ?_
  refine lv_if_ne (tgt := 359) F.1 F.2.1 dL_isPart_352 (by decide) (fun c3 => ?_) (fun c3 => False.elim (by revert c3; decide))
  refine lv_aload_n F.1 F.2.1 dL_isPart_359 rfl (lv_at hl 7 rfl) ?_
  refine lv_iconst (v := 1) F.1 F.2.1 dL_isPart_360 (by decide) ?_
  refine lv_iload F.1 F.2.1 dL_isPart_361 (lv_at hl 1 rfl) ?_
  refine lv_iadd F.1 F.2.1 dL_isPart_363 ?_
  refine lv_topi (fun v4 ev4 => ?_)
  have ev4 : v4 = 4 := ev4.trans (by decide)
  subst ev4
  refine w_calli F hP hS (k_count l D Y ad N hI hN _ hL 4 (by decide) hok) (cwVm 1 F.2.2.2.2.1 (fun _ h => h) mw_482 mw_716 mw_480 mw_481 mw_2 rfl rfl ydX7_count ⟨by decide, by decide⟩) (by omega) (ls_at hL) rfl rfl hl.1 rfl (Nat.le_of_ble_eq_true rfl) dL_isPart_364 ⟨Nat.zero_le _, Nat.zero_le _⟩ (fun r1 C2 H locs hq hP hS => ?_)
  obtain ⟨hw1, hr1⟩ := hq; rw [hw1] at hP
  have hr1 := hr1.trans cn_4
  subst hr1
  refine lv_istore (lv' := [(8, .int (f 17)), (7, .int (nI k)), (6, .int (3)), (5, .int (valAt f k)), (4, .int (kd)), (3, .int (nI k)), (2, .int (g1 8)), (1, .ref (ad 170)), (0, .ref (ad 0))]) F.1 F.2.1 dL_isPart_367 hl (by decide) rfl (fun ls hl => ?_)
  refine lv_iload F.1 F.2.1 dL_isPart_369 (lv_at hl 2 rfl) ?_
  refine lv_if_eq (tgt := 380) F.1 F.2.1 dL_isPart_371 (by decide) (fun c5 => False.elim (by revert c5; decide)) (fun c5 => ?_)
  refine lv_iload F.1 F.2.1 dL_isPart_374 (lv_at hl 2 rfl) ?_
  refine lv_iconst (v := 4) F.1 F.2.1 dL_isPart_376 (by decide) ?_
  refine lv_icmp_ne (tgt := 384) F.1 F.2.1 dL_isPart_377 (by decide) (fun c6 => ?_) (fun c6 => False.elim (by revert c6; decide))
  refine lv_aload_n F.1 F.2.1 dL_isPart_384 rfl (lv_at hl 8 rfl) ?_
  refine lv_iload_n F.1 F.2.1 dL_isPart_385 rfl (lv_at hl 5 rfl) ?_
  refine lv_iconst (v := 1) F.1 F.2.1 dL_isPart_386 (by decide) ?_
  refine lv_iload F.1 F.2.1 dL_isPart_387 (lv_at hl 2 rfl) ?_
  refine lv_iadd F.1 F.2.1 dL_isPart_389 ?_
  refine lv_topi (fun v7 ev7 => ?_)
  have ev7 : v7 = 4 := ev7.trans (by decide)
  subst ev7
  refine w_calli F hP hS (k_of l D Y ad N hI hN _ hL (nI k) 4) (cwVm 2 F.2.2.2.2.1 (fun _ h => h) mw_445 mw_717 mw_443 mw_444 mw_2 rfl rfl ydX7_of ⟨by decide, by decide⟩) (by omega) (ls_at hL) rfl rfl hl.1 rfl (Nat.le_of_ble_eq_true rfl) dL_isPart_390 ⟨Nat.zero_le _, Nat.zero_le _⟩ (fun r2 C2 H locs hq hP hS => ?_)
  obtain ⟨hw2, hr2⟩ := hq; rw [hw2] at hP
  have hr2 := hr2.trans (of_4 h4 hkn hn)
  subst hr2
  refine lv_istore (lv' := [(9, .int (f (65 + 5 * k))), (8, .int (f 17)), (7, .int (nI k)), (6, .int (3)), (5, .int (valAt f k)), (4, .int (kd)), (3, .int (nI k)), (2, .int (g1 8)), (1, .ref (ad 170)), (0, .ref (ad 0))]) F.1 F.2.1 dL_isPart_393 hl (by decide) rfl (fun ls hl => ?_)
  refine lv_aload_n F.1 F.2.1 dL_isPart_395 rfl (lv_at hl 9 rfl) ?_
  refine lv_iconst (v := 1) F.1 F.2.1 dL_isPart_396 (by decide) ?_
  refine w_calli F hP hS (k_roll l D Y ad N hI hN _ hL h5 h11 hok (by omega) hB0) (cwVm 1 F.2.2.2.2.1 (fun _ h => h) mw_278 mw_720 mw_276 mw_277 mw_2 rfl rfl ydX7_roll ⟨by decide, by decide⟩) (by omega) (ls_at hL) rfl rfl hl.1 rfl (Nat.le_of_ble_eq_true rfl) dL_isPart_397 ⟨Nat.zero_le _, Nat.zero_le _⟩ (fun r3 C3 H locs hq hP hS => ?_)
  obtain ⟨hr3, hL3, hz3⟩ := hq
  have hH3 := hz3.trans hH
  have hr3 := hr3.trans (show T_rolled 1 f 0 11 = 3 by rw [eg]; exact hg11)
  subst hr3
  rw [eg] at hL3
  refine lv_iload F.1 F.2.1 dL_isPart_400 (lv_at hl 3 rfl) ?_
  refine lv_icmp_ne (tgt := 501) F.1 F.2.1 dL_isPart_402 (by decide) (fun c8 => False.elim (c8 rfl)) (fun c8 => ?_)
  refine lv_aload_n F.1 F.2.1 dL_isPart_405 rfl (lv_at hl 9 rfl) ?_
  refine lv_iconst (v := 0) F.1 F.2.1 dL_isPart_406 (by decide) ?_
  refine w_calli F hP hS (k_ofHoop l D Y ad N hI hN _ hL3 0) (cwVm 1 F.2.2.2.2.1 (fun _ h => h) mw_454 mw_719 mw_452 mw_453 mw_2 rfl rfl ydX7_ofHoop ⟨by decide, by decide⟩) (by omega) (ls_at hL3) rfl rfl hl.1 rfl (Nat.le_of_ble_eq_true rfl) dL_isPart_407 ⟨Nat.zero_le _, Nat.zero_le _⟩ (fun r4 C2 H locs hq hP hS => ?_)
  obtain ⟨hw4, hr4⟩ := hq; rw [hw4] at hP
  have hr4 := hr4.trans ((oh_0 hg5).trans hg6)
  subst hr4
  refine lv_aload_n F.1 F.2.1 dL_isPart_410 rfl (lv_at hl 8 rfl) ?_
  refine lv_iconst (v := 0) F.1 F.2.1 dL_isPart_411 (by decide) ?_
  refine w_iald F hP (by omega) hH3 (k := 0) rfl (by decide) (Nat.le_of_ble_eq_true rfl) (v := f 6) hv_0 dL_isPart_412 ?_
  refine lv_icmp_ne (tgt := 501) F.1 F.2.1 dL_isPart_413 (by decide) (fun c9 => False.elim (c9 rfl)) (fun c9 => ?_)
  refine lv_aload_n F.1 F.2.1 dL_isPart_416 rfl (lv_at hl 9 rfl) ?_
  refine lv_iconst (v := 1) F.1 F.2.1 dL_isPart_417 (by decide) ?_
  refine w_calli F hP hS (k_ofHoop l D Y ad N hI hN _ hL3 1) (cwVm 1 F.2.2.2.2.1 (fun _ h => h) mw_454 mw_719 mw_452 mw_453 mw_2 rfl rfl ydX7_ofHoop ⟨by decide, by decide⟩) (by omega) (ls_at hL3) rfl rfl hl.1 rfl (Nat.le_of_ble_eq_true rfl) dL_isPart_418 ⟨Nat.zero_le _, Nat.zero_le _⟩ (fun r5 C2 H locs hq hP hS => ?_)
  obtain ⟨hw5, hr5⟩ := hq; rw [hw5] at hP
  have hr5 := hr5.trans (oh_1 hg5)
  subst hr5
  refine lv_aload_n F.1 F.2.1 dL_isPart_421 rfl (lv_at hl 8 rfl) ?_
  refine lv_iconst (v := 1) F.1 F.2.1 dL_isPart_422 (by decide) ?_
  refine w_iald F hP (by omega) hH3 (k := 1) rfl (by decide) (Nat.le_of_ble_eq_true rfl) (v := g1 7) hv_1 dL_isPart_423 ?_
  refine lv_icmp_ne (tgt := 501) F.1 F.2.1 dL_isPart_424 (by decide) (fun c10 => False.elim (c10 rfl)) (fun c10 => ?_)
  refine lv_aload_n F.1 F.2.1 dL_isPart_427 rfl (lv_at hl 9 rfl) ?_
  refine lv_iconst (v := 2) F.1 F.2.1 dL_isPart_428 (by decide) ?_
  refine w_calli F hP hS (k_ofHoop l D Y ad N hI hN _ hL3 2) (cwVm 1 F.2.2.2.2.1 (fun _ h => h) mw_454 mw_719 mw_452 mw_453 mw_2 rfl rfl ydX7_ofHoop ⟨by decide, by decide⟩) (by omega) (ls_at hL3) rfl rfl hl.1 rfl (Nat.le_of_ble_eq_true rfl) dL_isPart_429 ⟨Nat.zero_le _, Nat.zero_le _⟩ (fun r6 C2 H locs hq hP hS => ?_)
  obtain ⟨hw6, hr6⟩ := hq; rw [hw6] at hP
  have hr6 := hr6.trans (oh_2 hg5)
  subst hr6
  refine lv_iload_n F.1 F.2.1 dL_isPart_432 rfl (lv_at hl 7 rfl) ?_
  refine lv_sipush (v := 500) F.1 F.2.1 dL_isPart_433 (by decide) ?_
  refine lv_iadd F.1 F.2.1 dL_isPart_436 ?_
  refine lv_icmp_ne (tgt := 501) F.1 F.2.1 dL_isPart_437 (by decide) (fun c11 => False.elim (c11 rfl)) (fun c11 => ?_)
  refine lv_aload_n F.1 F.2.1 dL_isPart_440 rfl (lv_at hl 9 rfl) ?_
  refine lv_iconst (v := 3) F.1 F.2.1 dL_isPart_441 (by decide) ?_
  refine w_calli F hP hS (k_ofHoop l D Y ad N hI hN _ hL3 3) (cwVm 1 F.2.2.2.2.1 (fun _ h => h) mw_454 mw_719 mw_452 mw_453 mw_2 rfl rfl ydX7_ofHoop ⟨by decide, by decide⟩) (by omega) (ls_at hL3) rfl rfl hl.1 rfl (Nat.le_of_ble_eq_true rfl) dL_isPart_442 ⟨Nat.zero_le _, Nat.zero_le _⟩ (fun r7 C2 H locs hq hP hS => ?_)
  obtain ⟨hw7, hr7⟩ := hq; rw [hw7] at hP
  have hr7 := hr7.trans (oh_3 hg5)
  subst hr7
  refine lv_aload_n F.1 F.2.1 dL_isPart_445 rfl (lv_at hl 8 rfl) ?_
  refine lv_iconst (v := 3) F.1 F.2.1 dL_isPart_446 (by decide) ?_
  refine w_iald F hP (by omega) hH3 (k := 3) rfl (by decide) (Nat.le_of_ble_eq_true rfl) (v := g1 9) hv_3 dL_isPart_447 ?_
  refine lv_icmp_ne (tgt := 501) F.1 F.2.1 dL_isPart_448 (by decide) (fun c12 => False.elim (c12 rfl)) (fun c12 => ?_)
  refine lv_aload_n F.1 F.2.1 dL_isPart_451 rfl (lv_at hl 9 rfl) ?_
  refine lv_iconst (v := 4) F.1 F.2.1 dL_isPart_452 (by decide) ?_
  refine w_calli F hP hS (k_ofHoop l D Y ad N hI hN _ hL3 4) (cwVm 1 F.2.2.2.2.1 (fun _ h => h) mw_454 mw_719 mw_452 mw_453 mw_2 rfl rfl ydX7_ofHoop ⟨by decide, by decide⟩) (by omega) (ls_at hL3) rfl rfl hl.1 rfl (Nat.le_of_ble_eq_true rfl) dL_isPart_453 ⟨Nat.zero_le _, Nat.zero_le _⟩ (fun r8 C2 H locs hq hP hS => ?_)
  obtain ⟨hw8, hr8⟩ := hq; rw [hw8] at hP
  have hr8 := hr8.trans ((oh_4 hg5).trans hg10)
  subst hr8
  refine lv_iload F.1 F.2.1 dL_isPart_456 (lv_at hl 2 rfl) ?_
  refine lv_icmp_ne (tgt := 501) F.1 F.2.1 dL_isPart_458 (by decide) (fun c13 => False.elim (c13 rfl)) (fun c13 => ?_)
  refine lv_aload_n F.1 F.2.1 dL_isPart_461 rfl (lv_at hl 9 rfl) ?_
  refine lv_iconst (v := 5) F.1 F.2.1 dL_isPart_462 (by decide) ?_
  refine w_calli F hP hS (k_ofHoop l D Y ad N hI hN _ hL3 5) (cwVm 1 F.2.2.2.2.1 (fun _ h => h) mw_454 mw_719 mw_452 mw_453 mw_2 rfl rfl ydX7_ofHoop ⟨by decide, by decide⟩) (by omega) (ls_at hL3) rfl rfl hl.1 rfl (Nat.le_of_ble_eq_true rfl) dL_isPart_463 ⟨Nat.zero_le _, Nat.zero_le _⟩ (fun r9 C2 H locs hq hP hS => ?_)
  obtain ⟨hw9, hr9⟩ := hq; rw [hw9] at hP
  have hr9 := hr9.trans ((oh_5 hg5).trans hg11)
  subst hr9
  refine lv_iload F.1 F.2.1 dL_isPart_466 (lv_at hl 3 rfl) ?_
  refine lv_icmp_ne (tgt := 501) F.1 F.2.1 dL_isPart_468 (by decide) (fun c14 => False.elim (c14 rfl)) (fun c14 => ?_)
  refine lv_aload_n F.1 F.2.1 dL_isPart_471 rfl (lv_at hl 9 rfl) ?_
  refine lv_bipush (v := 6) F.1 F.2.1 dL_isPart_472 (by decide) ?_
  refine w_calli F hP hS (k_ofHoop l D Y ad N hI hN _ hL3 6) (cwVm 1 F.2.2.2.2.1 (fun _ h => h) mw_454 mw_719 mw_452 mw_453 mw_2 rfl rfl ydX7_ofHoop ⟨by decide, by decide⟩) (by omega) (ls_at hL3) rfl rfl hl.1 rfl (Nat.le_of_ble_eq_true rfl) dL_isPart_474 ⟨Nat.zero_le _, Nat.zero_le _⟩ (fun r10 C2 H locs hq hP hS => ?_)
  obtain ⟨hw10, hr10⟩ := hq; rw [hw10] at hP
  have hr10 := hr10.trans ((oh_6 hg5).trans hg12)
  subst hr10
  refine lv_aload_n F.1 F.2.1 dL_isPart_477 rfl (lv_at hl 8 rfl) ?_
  refine lv_bipush (v := 6) F.1 F.2.1 dL_isPart_478 (by decide) ?_
  refine w_iald F hP (by omega) hH3 (k := 6) rfl (by decide) (Nat.le_of_ble_eq_true rfl) (v := f 12) hv_6 dL_isPart_480 ?_
  refine lv_icmp_ne (tgt := 501) F.1 F.2.1 dL_isPart_481 (by decide) (fun c15 => False.elim (c15 rfl)) (fun c15 => ?_)
  refine lv_aload_n F.1 F.2.1 dL_isPart_484 rfl (lv_at hl 9 rfl) ?_
  refine lv_bipush (v := 7) F.1 F.2.1 dL_isPart_485 (by decide) ?_
  refine w_calli F hP hS (k_ofHoop l D Y ad N hI hN _ hL3 7) (cwVm 1 F.2.2.2.2.1 (fun _ h => h) mw_454 mw_719 mw_452 mw_453 mw_2 rfl rfl ydX7_ofHoop ⟨by decide, by decide⟩) (by omega) (ls_at hL3) rfl rfl hl.1 rfl (Nat.le_of_ble_eq_true rfl) dL_isPart_487 ⟨Nat.zero_le _, Nat.zero_le _⟩ (fun r11 C2 H locs hq hP hS => ?_)
  obtain ⟨hw11, hr11⟩ := hq; rw [hw11] at hP
  have hr11 := hr11.trans ((oh_7 hg5).trans hg13)
  subst hr11
  refine lv_aload_n F.1 F.2.1 dL_isPart_490 rfl (lv_at hl 8 rfl) ?_
  refine lv_bipush (v := 7) F.1 F.2.1 dL_isPart_491 (by decide) ?_
  refine w_iald F hP (by omega) hH3 (k := 7) rfl (by decide) (Nat.le_of_ble_eq_true rfl) (v := f 13) hv_7 dL_isPart_493 ?_
  refine lv_icmp_ne (tgt := 501) F.1 F.2.1 dL_isPart_494 (by decide) (fun c16 => False.elim (c16 rfl)) (fun c16 => ?_)
  refine lv_iconst (v := 1) F.1 F.2.1 dL_isPart_497 (by decide) ?_
  refine lv_goto (tgt := 502) F.1 F.2.1 dL_isPart_498 (by decide) ?_
  refine lv_istore (lv' := [(10, .int (1)), (9, .int (f (65 + 5 * k))), (8, .int (f 17)), (7, .int (nI k)), (6, .int (3)), (5, .int (valAt f k)), (4, .int (kd)), (3, .int (nI k)), (2, .int (g1 8)), (1, .ref (ad 170)), (0, .ref (ad 0))]) F.1 F.2.1 dL_isPart_502 hl (by decide) rfl (fun ls hl => ?_)
  refine lv_iload F.1 F.2.1 dL_isPart_504 (lv_at hl 4 rfl) ?_
  refine lv_if_le (tgt := 615) F.1 F.2.1 dL_isPart_506 (by decide) (fun c17 => False.elim (by revert c17; decide)) (fun c17 => ?_)
  refine lv_iload F.1 F.2.1 dL_isPart_509 (lv_at hl 0 rfl) ?_
  refine lv_if_eq (tgt := 612) F.1 F.2.1 dL_isPart_511 (by decide) (fun c18 => False.elim (by revert c18; decide)) (fun c18 => ?_)
  refine lv_aload_n F.1 F.2.1 dL_isPart_514 rfl (lv_at hl 10 rfl) ?_
  refine lv_iconst (v := 1) F.1 F.2.1 dL_isPart_515 (by decide) ?_
  refine lv_iload F.1 F.2.1 dL_isPart_516 (lv_at hl 4 rfl) ?_
  refine lv_iadd F.1 F.2.1 dL_isPart_518 ?_
  refine lv_topi (fun v19 ev19 => ?_)
  have ev19 : v19 = 4 := ev19.trans (by decide)
  subst ev19
  refine w_calli F hP hS (k_count l D Y ad N hI hN _ hL3 4 (by decide) okg) (cwVm 1 F.2.2.2.2.1 (fun _ h => h) mw_482 mw_716 mw_480 mw_481 mw_2 rfl rfl ydX7_count ⟨by decide, by decide⟩) (by omega) (ls_at hL3) rfl rfl hl.1 rfl (Nat.le_of_ble_eq_true rfl) dL_isPart_519 ⟨Nat.zero_le _, Nat.zero_le _⟩ (fun r12 C2 H locs hq hP hS => ?_)
  obtain ⟨hw12, hr12⟩ := hq; rw [hw12] at hP
  have hr12 := hr12.trans (cn_4.trans e1)
  subst hr12
  refine lv_iload F.1 F.2.1 dL_isPart_522 (lv_at hl 2 rfl) ?_
  refine lv_iconst (v := 1) F.1 F.2.1 dL_isPart_524 (by decide) ?_
  refine lv_iadd F.1 F.2.1 dL_isPart_525 ?_
  refine lv_icmp_ne (tgt := 612) F.1 F.2.1 dL_isPart_526 (by decide) (fun c20 => False.elim (c20 rfl)) (fun c20 => ?_)
  refine lv_aload_n F.1 F.2.1 dL_isPart_529 rfl (lv_at hl 10 rfl) ?_
  refine lv_iconst (v := 0) F.1 F.2.1 dL_isPart_530 (by decide) ?_
  refine lv_iconst (v := 0) F.1 F.2.1 dL_isPart_531 (by decide) ?_
  refine w_calli F hP hS (k_run l D Y ad N hI hN _ hL3 0 0) (cwVm 2 F.2.2.2.2.1 (fun _ h => h) mw_465 mw_718 mw_463 mw_464 mw_2 rfl rfl ydX7_run ⟨by decide, by decide⟩) (by omega) (ls_at hL3) rfl rfl hl.1 rfl (Nat.le_of_ble_eq_true rfl) dL_isPart_532 ⟨Nat.zero_le _, Nat.zero_le _⟩ (fun r13 C2 H locs hq hP hS => ?_)
  obtain ⟨hw13, hr13⟩ := hq; rw [hw13] at hP
  have hr13 := hr13.trans ((rn_0_0 e2).trans e3)
  subst hr13
  refine lv_aload_n F.1 F.2.1 dL_isPart_535 rfl (lv_at hl 9 rfl) ?_
  refine lv_iconst (v := 0) F.1 F.2.1 dL_isPart_536 (by decide) ?_
  refine w_iald F hP (by omega) hH3 (k := 0) rfl (by decide) (Nat.le_of_ble_eq_true rfl) (v := f 6) hv_0 dL_isPart_537 ?_
  refine lv_icmp_ne (tgt := 612) F.1 F.2.1 dL_isPart_538 (by decide) (fun c21 => False.elim (c21 rfl)) (fun c21 => ?_)
  refine lv_aload_n F.1 F.2.1 dL_isPart_541 rfl (lv_at hl 10 rfl) ?_
  refine lv_iconst (v := 0) F.1 F.2.1 dL_isPart_542 (by decide) ?_
  refine lv_iconst (v := 1) F.1 F.2.1 dL_isPart_543 (by decide) ?_
  refine w_calli F hP hS (k_run l D Y ad N hI hN _ hL3 0 1) (cwVm 2 F.2.2.2.2.1 (fun _ h => h) mw_465 mw_718 mw_463 mw_464 mw_2 rfl rfl ydX7_run ⟨by decide, by decide⟩) (by omega) (ls_at hL3) rfl rfl hl.1 rfl (Nat.le_of_ble_eq_true rfl) dL_isPart_544 ⟨Nat.zero_le _, Nat.zero_le _⟩ (fun r14 C2 H locs hq hP hS => ?_)
  obtain ⟨hw14, hr14⟩ := hq; rw [hw14] at hP
  have hr14 := hr14.trans ((rn_0_1 e2).trans e4)
  subst hr14
  refine lv_iload F.1 F.2.1 dL_isPart_547 (lv_at hl 4 rfl) ?_
  refine lv_icmp_ne (tgt := 612) F.1 F.2.1 dL_isPart_549 (by decide) (fun c22 => False.elim (c22 rfl)) (fun c22 => ?_)
  refine lv_aload_n F.1 F.2.1 dL_isPart_552 rfl (lv_at hl 10 rfl) ?_
  refine lv_iconst (v := 0) F.1 F.2.1 dL_isPart_553 (by decide) ?_
  refine lv_iconst (v := 2) F.1 F.2.1 dL_isPart_554 (by decide) ?_
  refine w_calli F hP hS (k_run l D Y ad N hI hN _ hL3 0 2) (cwVm 2 F.2.2.2.2.1 (fun _ h => h) mw_465 mw_718 mw_463 mw_464 mw_2 rfl rfl ydX7_run ⟨by decide, by decide⟩) (by omega) (ls_at hL3) rfl rfl hl.1 rfl (Nat.le_of_ble_eq_true rfl) dL_isPart_555 ⟨Nat.zero_le _, Nat.zero_le _⟩ (fun r15 C2 H locs hq hP hS => ?_)
  obtain ⟨hw15, hr15⟩ := hq; rw [hw15] at hP
  have hr15 := hr15.trans ((rn_0_2 e2).trans e5)
  subst hr15
  refine lv_iload F.1 F.2.1 dL_isPart_558 (lv_at hl 3 rfl) ?_
  refine lv_icmp_ne (tgt := 612) F.1 F.2.1 dL_isPart_560 (by decide) (fun c23 => False.elim (c23 rfl)) (fun c23 => ?_)
  refine lv_aload_n F.1 F.2.1 dL_isPart_563 rfl (lv_at hl 10 rfl) ?_
  refine lv_iconst (v := 0) F.1 F.2.1 dL_isPart_564 (by decide) ?_
  refine lv_iconst (v := 3) F.1 F.2.1 dL_isPart_565 (by decide) ?_
  refine w_calli F hP hS (k_run l D Y ad N hI hN _ hL3 0 3) (cwVm 2 F.2.2.2.2.1 (fun _ h => h) mw_465 mw_718 mw_463 mw_464 mw_2 rfl rfl ydX7_run ⟨by decide, by decide⟩) (by omega) (ls_at hL3) rfl rfl hl.1 rfl (Nat.le_of_ble_eq_true rfl) dL_isPart_566 ⟨Nat.zero_le _, Nat.zero_le _⟩ (fun r16 C2 H locs hq hP hS => ?_)
  obtain ⟨hw16, hr16⟩ := hq; rw [hw16] at hP
  have hr16 := hr16.trans ((rn_0_3 e2).trans e6)
  subst hr16
  refine lv_aload_n F.1 F.2.1 dL_isPart_569 rfl (lv_at hl 9 rfl) ?_
  refine lv_bipush (v := 6) F.1 F.2.1 dL_isPart_570 (by decide) ?_
  refine w_iald F hP (by omega) hH3 (k := 6) rfl (by decide) (Nat.le_of_ble_eq_true rfl) (v := f 12) hv_6 dL_isPart_572 ?_
  refine lv_icmp_ne (tgt := 612) F.1 F.2.1 dL_isPart_573 (by decide) (fun c24 => False.elim (c24 rfl)) (fun c24 => ?_)
  refine lv_aload_n F.1 F.2.1 dL_isPart_576 rfl (lv_at hl 10 rfl) ?_
  refine lv_iconst (v := 1) F.1 F.2.1 dL_isPart_577 (by decide) ?_
  refine w_calli F hP hS (k_roll_n l D Y ad N hI hN _ hL3 (fun q => absurd (hg11.symm.trans q.2) (by decide)) okg (by omega)) (cwVm 1 F.2.2.2.2.1 (fun _ h => h) mw_278 mw_720 mw_276 mw_277 mw_2 rfl rfl ydX7_roll ⟨by decide, by decide⟩) (by omega) (ls_at hL3) rfl rfl hl.1 rfl (Nat.le_of_ble_eq_true rfl) dL_isPart_578 ⟨Nat.zero_le _, Nat.zero_le _⟩ (fun r17 C2 H locs hq hP hS => ?_)
  obtain ⟨hw17, hr17⟩ := hq; rw [hw17] at hP
  subst hr17
  refine lv_bipush (v := (-5)) F.1 F.2.1 dL_isPart_581 (by decide) ?_
  refine lv_icmp_ne (tgt := 612) F.1 F.2.1 dL_isPart_583 (by decide) (fun c25 => False.elim (c25 rfl)) (fun c25 => ?_)
  refine lv_iload F.1 F.2.1 dL_isPart_586 (lv_at hl 4 rfl) ?_
  refine lv_iconst (v := 4) F.1 F.2.1 dL_isPart_588 (by decide) ?_
  refine lv_icmp_eq (tgt := 608) F.1 F.2.1 dL_isPart_589 (by decide) (fun c26 => False.elim (by revert c26; decide)) (fun c26 => ?_)
  refine lv_aload_n F.1 F.2.1 dL_isPart_592 rfl (lv_at hl 10 rfl) ?_
  refine lv_iload_n F.1 F.2.1 dL_isPart_593 rfl (lv_at hl 7 rfl) ?_
  refine lv_iconst (v := 1) F.1 F.2.1 dL_isPart_594 (by decide) ?_
  refine lv_iload F.1 F.2.1 dL_isPart_595 (lv_at hl 4 rfl) ?_
  refine lv_iadd F.1 F.2.1 dL_isPart_597 ?_
  refine lv_topi (fun v27 ev27 => ?_)
  have ev27 : v27 = 4 := ev27.trans (by decide)
  subst ev27
  refine w_calli F hP hS (k_of l D Y ad N hI hN _ hL3 (nI k) 4) (cwVm 2 F.2.2.2.2.1 (fun _ h => h) mw_445 mw_717 mw_443 mw_444 mw_2 rfl rfl ydX7_of ⟨by decide, by decide⟩) (by omega) (ls_at hL3) rfl rfl hl.1 rfl (Nat.le_of_ble_eq_true rfl) dL_isPart_598 ⟨Nat.zero_le _, Nat.zero_le _⟩ (fun r18 C2 H locs hq hP hS => ?_)
  obtain ⟨hw18, hr18⟩ := hq; rw [hw18] at hP
  have hr18 := hr18.trans ((of_4 hg4 hkn hn).trans e7)
  subst hr18
  refine lv_iload F.1 F.2.1 dL_isPart_601 (lv_at hl 1 rfl) ?_
  refine lv_iconst (v := 1) F.1 F.2.1 dL_isPart_603 (by decide) ?_
  refine lv_iadd F.1 F.2.1 dL_isPart_604 ?_
  refine lv_icmp_ne (tgt := 612) F.1 F.2.1 dL_isPart_605 (by decide) (fun c28 => False.elim (c28 rfl)) (fun c28 => ?_)
  refine lv_iconst (v := 1) F.1 F.2.1 dL_isPart_608 (by decide) ?_
  refine lv_goto (tgt := 613) F.1 F.2.1 dL_isPart_609 (by decide) ?_
  refine lv_istore (lv' := [(10, .int (1)), (9, .int (f (65 + 5 * k))), (8, .int (f 17)), (7, .int (nI k)), (6, .int (3)), (5, .int (valAt f k)), (4, .int (kd)), (3, .int (nI k)), (2, .int (g1 8)), (1, .ref (ad 170)), (0, .ref (ad 0))]) F.1 F.2.1 dL_isPart_613 hl (by decide) rfl (fun ls hl => ?_)
  refine lv_iload F.1 F.2.1 dL_isPart_615 (lv_at hl 0 rfl) ?_
  exact w_zret F hr hlocks hP hS (Or.inr rfl) dL_isPart_617 ⟨rfl, hL3, _, hH3⟩
set_option maxRecDepth 20000 in
set_option maxHeartbeats 4000000 in
theorem ip_tail_4 {p : Program} {l : Launch} {e : Env} {s : State} {m : MethodId} {below : List Frame} {meth : Method} {c : Code} {args : Array Value} {D : va_G} {Y : Nat → ClassId} {ad : Nat → Nat} {N : Nat} (hI : wI ad N) (hN : 171 ≤ N) (F : wFix p s m c args cL_isPart RL 11 D Y ad N) (hr : meth.sig.returnType = some .boolean) (hlocks : meth.locks = false) {C : Nat → va_E} {f : Nat → Int32} {sl : Nat → Nat → Int32} {sv : Nat → Int32} {hv : Nat → Int32} {B : Int} {H : Heap} {locs : List Loc} (hP : wP D ad N C H) (hS : va_S (wA ad N) s.heap H locs) (hL : kLS Y ad C f sl sv) (hH : C 170 = .inl (Y 0, 8, .inl hv)) (hok : okRow B f) (hB0 : 0 ≤ B) (hB : B + 5000 ≤ 900000000) (h5 : f 5 = 1) (h11 : f 11 = 0) {k n : Nat} (h10 : f 10 = nI k) (h4 : f 4 = nI n) (hkn : k < n) (hn : n ≤ 20) {kd : Int32} {g1 : Nat → Int32} (eg : T_rolled 1 f 0 = g1) (hw : T_hw f k = 4) (hv_0 : hv 0 = f 6) (hv_1 : hv 1 = g1 7) (hv_3 : hv 3 = g1 9) (hv_6 : hv 6 = f 12) (hv_7 : hv 7 = f 13) {ls : Array Slot} (hl : lv_has ls 11 [(6, .int 4), (5, .int (valAt f k)), (4, .int kd), (3, .int (nI k)), (2, .int (g1 8)), (1, .ref (ad 170)), (0, .ref (ad 0))]) : W p l e { frames := 7, cells := 0, slots := 0, locals := 151 } s m args below meth c H locs 0 0 (MQ below (wQi D ad N (fun r C' => r = 1 ∧ kLT Y ad C' g1 sl sv)) args s 0 0 (wA ad N)) (F0 m 330 ls []) := by
  obtain ⟨hg4, hg5, hg6, hg12, hg13, -, -, -, hg11, hg10⟩ := ip_facts hok (by omega) h5 h11 h10 h4 hkn hn eg
  rw [hw] at hg11 hg10
  have hg10 : g1 10 = nI (k + 1) := hg10.trans (if_pos (by decide))
  have okg : okRow (B + 25) g1 := by rw [← eg]; exact okRow_roll (g := 0) 1 (by omega) hok h5 h11
  obtain ⟨e1, e2, e3, e4, e5, e6, e7⟩ := ip_end hok (by omega) h5 h11 h10 h4 hkn hn eg (w := 4) hw (by decide) (by decide)
  have e4 : g1 22 = 4 := e4
  have e5 : g1 23 = nI (k + 1) := e5.trans hg10
  refine lv_iload F.1 F.2.1 dL_isPart_330 (lv_at hl 0 rfl) ?_
  refine lv_if_le (tgt := 345) F.1 F.2.1 dL_isPart_332 (by decide) (fun c1 => False.elim (by revert c1; decide)) (fun c1 => ?_)
  refine lv_iload F.1 F.2.1 dL_isPart_335 (lv_at hl 0 rfl) ?_
  refine lv_iconst (v := 4) F.1 F.2.1 dL_isPart_337 (by decide) ?_
  refine lv_icmp_ge (tgt := 345) F.1 F.2.1 dL_isPart_338 (by decide) (fun c2 => ?_) (fun c2 => False.elim (by revert c2; decide))
  refine lv_iload_n F.1 F.2.1 dL_isPart_345 rfl (lv_at hl 3 rfl) ?_
  refine lv_iconst (v := 1) F.1 F.2.1 dL_isPart_346 (by decide) ?_
  refine lv_iadd F.1 F.2.1 dL_isPart_347 ?_
  refine lv_topi (fun v3 ev3 => ?_)
  have ev3 : v3 = nI (k + 1) := ev3.trans (nI_succ k).symm
  subst ev3
  refine lv_istore (lv' := [(7, .int (nI (k + 1))), (6, .int (4)), (5, .int (valAt f k)), (4, .int (kd)), (3, .int (nI k)), (2, .int (g1 8)), (1, .ref (ad 170)), (0, .ref (ad 0))]) F.1 F.2.1 dL_isPart_348 hl (by decide) rfl (fun ls hl => ?_)
  refine lv_iload F.1 F.2.1 dL_isPart_350 (lv_at hl 1 rfl) ?_
  refine lv_if_ne (tgt := 359) F.1 F.2.1 dL_isPart_352 (by decide) (fun c4 => ?_) (fun c4 => False.elim (by revert c4; decide))
  refine lv_aload_n F.1 F.2.1 dL_isPart_359 rfl (lv_at hl 7 rfl) ?_
  refine lv_iconst (v := 1) F.1 F.2.1 dL_isPart_360 (by decide) ?_
  refine lv_iload F.1 F.2.1 dL_isPart_361 (lv_at hl 1 rfl) ?_
  refine lv_iadd F.1 F.2.1 dL_isPart_363 ?_
  refine lv_topi (fun v5 ev5 => ?_)
  have ev5 : v5 = 5 := ev5.trans (by decide)
  subst ev5
  refine w_calli F hP hS (k_count l D Y ad N hI hN _ hL 5 (by decide) hok) (cwVm 1 F.2.2.2.2.1 (fun _ h => h) mw_482 mw_716 mw_480 mw_481 mw_2 rfl rfl ydX7_count ⟨by decide, by decide⟩) (by omega) (ls_at hL) rfl rfl hl.1 rfl (Nat.le_of_ble_eq_true rfl) dL_isPart_364 ⟨Nat.zero_le _, Nat.zero_le _⟩ (fun r1 C2 H locs hq hP hS => ?_)
  obtain ⟨hw1, hr1⟩ := hq; rw [hw1] at hP
  have hr1 := hr1.trans cn_5
  subst hr1
  refine lv_istore (lv' := [(8, .int (f 18)), (7, .int (nI (k + 1))), (6, .int (4)), (5, .int (valAt f k)), (4, .int (kd)), (3, .int (nI k)), (2, .int (g1 8)), (1, .ref (ad 170)), (0, .ref (ad 0))]) F.1 F.2.1 dL_isPart_367 hl (by decide) rfl (fun ls hl => ?_)
  refine lv_iload F.1 F.2.1 dL_isPart_369 (lv_at hl 2 rfl) ?_
  refine lv_if_eq (tgt := 380) F.1 F.2.1 dL_isPart_371 (by decide) (fun c6 => False.elim (by revert c6; decide)) (fun c6 => ?_)
  refine lv_iload F.1 F.2.1 dL_isPart_374 (lv_at hl 2 rfl) ?_
  refine lv_iconst (v := 4) F.1 F.2.1 dL_isPart_376 (by decide) ?_
  refine lv_icmp_ne (tgt := 384) F.1 F.2.1 dL_isPart_377 (by decide) (fun c7 => False.elim (by revert c7; decide)) (fun c7 => ?_)
  refine lv_iconst (v := 0) F.1 F.2.1 dL_isPart_380 (by decide) ?_
  refine lv_goto (tgt := 393) F.1 F.2.1 dL_isPart_381 (by decide) ?_
  refine lv_istore (lv' := [(9, .int (0)), (8, .int (f 18)), (7, .int (nI (k + 1))), (6, .int (4)), (5, .int (valAt f k)), (4, .int (kd)), (3, .int (nI k)), (2, .int (g1 8)), (1, .ref (ad 170)), (0, .ref (ad 0))]) F.1 F.2.1 dL_isPart_393 hl (by decide) rfl (fun ls hl => ?_)
  refine lv_aload_n F.1 F.2.1 dL_isPart_395 rfl (lv_at hl 9 rfl) ?_
  refine lv_iconst (v := 1) F.1 F.2.1 dL_isPart_396 (by decide) ?_
  refine w_calli F hP hS (k_roll l D Y ad N hI hN _ hL h5 h11 hok (by omega) hB0) (cwVm 1 F.2.2.2.2.1 (fun _ h => h) mw_278 mw_720 mw_276 mw_277 mw_2 rfl rfl ydX7_roll ⟨by decide, by decide⟩) (by omega) (ls_at hL) rfl rfl hl.1 rfl (Nat.le_of_ble_eq_true rfl) dL_isPart_397 ⟨Nat.zero_le _, Nat.zero_le _⟩ (fun r2 C2 H locs hq hP hS => ?_)
  obtain ⟨hr2, hL2, hz2⟩ := hq
  have hH2 := hz2.trans hH
  have hr2 := hr2.trans (show T_rolled 1 f 0 11 = 4 by rw [eg]; exact hg11)
  subst hr2
  rw [eg] at hL2
  refine lv_iload F.1 F.2.1 dL_isPart_400 (lv_at hl 3 rfl) ?_
  refine lv_icmp_ne (tgt := 501) F.1 F.2.1 dL_isPart_402 (by decide) (fun c8 => False.elim (c8 rfl)) (fun c8 => ?_)
  refine lv_aload_n F.1 F.2.1 dL_isPart_405 rfl (lv_at hl 9 rfl) ?_
  refine lv_iconst (v := 0) F.1 F.2.1 dL_isPart_406 (by decide) ?_
  refine w_calli F hP hS (k_ofHoop l D Y ad N hI hN _ hL2 0) (cwVm 1 F.2.2.2.2.1 (fun _ h => h) mw_454 mw_719 mw_452 mw_453 mw_2 rfl rfl ydX7_ofHoop ⟨by decide, by decide⟩) (by omega) (ls_at hL2) rfl rfl hl.1 rfl (Nat.le_of_ble_eq_true rfl) dL_isPart_407 ⟨Nat.zero_le _, Nat.zero_le _⟩ (fun r3 C2 H locs hq hP hS => ?_)
  obtain ⟨hw3, hr3⟩ := hq; rw [hw3] at hP
  have hr3 := hr3.trans ((oh_0 hg5).trans hg6)
  subst hr3
  refine lv_aload_n F.1 F.2.1 dL_isPart_410 rfl (lv_at hl 8 rfl) ?_
  refine lv_iconst (v := 0) F.1 F.2.1 dL_isPart_411 (by decide) ?_
  refine w_iald F hP (by omega) hH2 (k := 0) rfl (by decide) (Nat.le_of_ble_eq_true rfl) (v := f 6) hv_0 dL_isPart_412 ?_
  refine lv_icmp_ne (tgt := 501) F.1 F.2.1 dL_isPart_413 (by decide) (fun c9 => False.elim (c9 rfl)) (fun c9 => ?_)
  refine lv_aload_n F.1 F.2.1 dL_isPart_416 rfl (lv_at hl 9 rfl) ?_
  refine lv_iconst (v := 1) F.1 F.2.1 dL_isPart_417 (by decide) ?_
  refine w_calli F hP hS (k_ofHoop l D Y ad N hI hN _ hL2 1) (cwVm 1 F.2.2.2.2.1 (fun _ h => h) mw_454 mw_719 mw_452 mw_453 mw_2 rfl rfl ydX7_ofHoop ⟨by decide, by decide⟩) (by omega) (ls_at hL2) rfl rfl hl.1 rfl (Nat.le_of_ble_eq_true rfl) dL_isPart_418 ⟨Nat.zero_le _, Nat.zero_le _⟩ (fun r4 C2 H locs hq hP hS => ?_)
  obtain ⟨hw4, hr4⟩ := hq; rw [hw4] at hP
  have hr4 := hr4.trans (oh_1 hg5)
  subst hr4
  refine lv_aload_n F.1 F.2.1 dL_isPart_421 rfl (lv_at hl 8 rfl) ?_
  refine lv_iconst (v := 1) F.1 F.2.1 dL_isPart_422 (by decide) ?_
  refine w_iald F hP (by omega) hH2 (k := 1) rfl (by decide) (Nat.le_of_ble_eq_true rfl) (v := g1 7) hv_1 dL_isPart_423 ?_
  refine lv_icmp_ne (tgt := 501) F.1 F.2.1 dL_isPart_424 (by decide) (fun c10 => False.elim (c10 rfl)) (fun c10 => ?_)
  refine lv_aload_n F.1 F.2.1 dL_isPart_427 rfl (lv_at hl 9 rfl) ?_
  refine lv_iconst (v := 2) F.1 F.2.1 dL_isPart_428 (by decide) ?_
  refine w_calli F hP hS (k_ofHoop l D Y ad N hI hN _ hL2 2) (cwVm 1 F.2.2.2.2.1 (fun _ h => h) mw_454 mw_719 mw_452 mw_453 mw_2 rfl rfl ydX7_ofHoop ⟨by decide, by decide⟩) (by omega) (ls_at hL2) rfl rfl hl.1 rfl (Nat.le_of_ble_eq_true rfl) dL_isPart_429 ⟨Nat.zero_le _, Nat.zero_le _⟩ (fun r5 C2 H locs hq hP hS => ?_)
  obtain ⟨hw5, hr5⟩ := hq; rw [hw5] at hP
  have hr5 := hr5.trans (oh_2 hg5)
  subst hr5
  refine lv_iload_n F.1 F.2.1 dL_isPart_432 rfl (lv_at hl 7 rfl) ?_
  refine lv_sipush (v := 500) F.1 F.2.1 dL_isPart_433 (by decide) ?_
  refine lv_iadd F.1 F.2.1 dL_isPart_436 ?_
  refine lv_icmp_ne (tgt := 501) F.1 F.2.1 dL_isPart_437 (by decide) (fun c11 => False.elim (c11 rfl)) (fun c11 => ?_)
  refine lv_aload_n F.1 F.2.1 dL_isPart_440 rfl (lv_at hl 9 rfl) ?_
  refine lv_iconst (v := 3) F.1 F.2.1 dL_isPart_441 (by decide) ?_
  refine w_calli F hP hS (k_ofHoop l D Y ad N hI hN _ hL2 3) (cwVm 1 F.2.2.2.2.1 (fun _ h => h) mw_454 mw_719 mw_452 mw_453 mw_2 rfl rfl ydX7_ofHoop ⟨by decide, by decide⟩) (by omega) (ls_at hL2) rfl rfl hl.1 rfl (Nat.le_of_ble_eq_true rfl) dL_isPart_442 ⟨Nat.zero_le _, Nat.zero_le _⟩ (fun r6 C2 H locs hq hP hS => ?_)
  obtain ⟨hw6, hr6⟩ := hq; rw [hw6] at hP
  have hr6 := hr6.trans (oh_3 hg5)
  subst hr6
  refine lv_aload_n F.1 F.2.1 dL_isPart_445 rfl (lv_at hl 8 rfl) ?_
  refine lv_iconst (v := 3) F.1 F.2.1 dL_isPart_446 (by decide) ?_
  refine w_iald F hP (by omega) hH2 (k := 3) rfl (by decide) (Nat.le_of_ble_eq_true rfl) (v := g1 9) hv_3 dL_isPart_447 ?_
  refine lv_icmp_ne (tgt := 501) F.1 F.2.1 dL_isPart_448 (by decide) (fun c12 => False.elim (c12 rfl)) (fun c12 => ?_)
  refine lv_aload_n F.1 F.2.1 dL_isPart_451 rfl (lv_at hl 9 rfl) ?_
  refine lv_iconst (v := 4) F.1 F.2.1 dL_isPart_452 (by decide) ?_
  refine w_calli F hP hS (k_ofHoop l D Y ad N hI hN _ hL2 4) (cwVm 1 F.2.2.2.2.1 (fun _ h => h) mw_454 mw_719 mw_452 mw_453 mw_2 rfl rfl ydX7_ofHoop ⟨by decide, by decide⟩) (by omega) (ls_at hL2) rfl rfl hl.1 rfl (Nat.le_of_ble_eq_true rfl) dL_isPart_453 ⟨Nat.zero_le _, Nat.zero_le _⟩ (fun r7 C2 H locs hq hP hS => ?_)
  obtain ⟨hw7, hr7⟩ := hq; rw [hw7] at hP
  have hr7 := hr7.trans ((oh_4 hg5).trans hg10)
  subst hr7
  refine lv_iload F.1 F.2.1 dL_isPart_456 (lv_at hl 2 rfl) ?_
  refine lv_icmp_ne (tgt := 501) F.1 F.2.1 dL_isPart_458 (by decide) (fun c13 => False.elim (c13 rfl)) (fun c13 => ?_)
  refine lv_aload_n F.1 F.2.1 dL_isPart_461 rfl (lv_at hl 9 rfl) ?_
  refine lv_iconst (v := 5) F.1 F.2.1 dL_isPart_462 (by decide) ?_
  refine w_calli F hP hS (k_ofHoop l D Y ad N hI hN _ hL2 5) (cwVm 1 F.2.2.2.2.1 (fun _ h => h) mw_454 mw_719 mw_452 mw_453 mw_2 rfl rfl ydX7_ofHoop ⟨by decide, by decide⟩) (by omega) (ls_at hL2) rfl rfl hl.1 rfl (Nat.le_of_ble_eq_true rfl) dL_isPart_463 ⟨Nat.zero_le _, Nat.zero_le _⟩ (fun r8 C2 H locs hq hP hS => ?_)
  obtain ⟨hw8, hr8⟩ := hq; rw [hw8] at hP
  have hr8 := hr8.trans ((oh_5 hg5).trans hg11)
  subst hr8
  refine lv_iload F.1 F.2.1 dL_isPart_466 (lv_at hl 3 rfl) ?_
  refine lv_icmp_ne (tgt := 501) F.1 F.2.1 dL_isPart_468 (by decide) (fun c14 => False.elim (c14 rfl)) (fun c14 => ?_)
  refine lv_aload_n F.1 F.2.1 dL_isPart_471 rfl (lv_at hl 9 rfl) ?_
  refine lv_bipush (v := 6) F.1 F.2.1 dL_isPart_472 (by decide) ?_
  refine w_calli F hP hS (k_ofHoop l D Y ad N hI hN _ hL2 6) (cwVm 1 F.2.2.2.2.1 (fun _ h => h) mw_454 mw_719 mw_452 mw_453 mw_2 rfl rfl ydX7_ofHoop ⟨by decide, by decide⟩) (by omega) (ls_at hL2) rfl rfl hl.1 rfl (Nat.le_of_ble_eq_true rfl) dL_isPart_474 ⟨Nat.zero_le _, Nat.zero_le _⟩ (fun r9 C2 H locs hq hP hS => ?_)
  obtain ⟨hw9, hr9⟩ := hq; rw [hw9] at hP
  have hr9 := hr9.trans ((oh_6 hg5).trans hg12)
  subst hr9
  refine lv_aload_n F.1 F.2.1 dL_isPart_477 rfl (lv_at hl 8 rfl) ?_
  refine lv_bipush (v := 6) F.1 F.2.1 dL_isPart_478 (by decide) ?_
  refine w_iald F hP (by omega) hH2 (k := 6) rfl (by decide) (Nat.le_of_ble_eq_true rfl) (v := f 12) hv_6 dL_isPart_480 ?_
  refine lv_icmp_ne (tgt := 501) F.1 F.2.1 dL_isPart_481 (by decide) (fun c15 => False.elim (c15 rfl)) (fun c15 => ?_)
  refine lv_aload_n F.1 F.2.1 dL_isPart_484 rfl (lv_at hl 9 rfl) ?_
  refine lv_bipush (v := 7) F.1 F.2.1 dL_isPart_485 (by decide) ?_
  refine w_calli F hP hS (k_ofHoop l D Y ad N hI hN _ hL2 7) (cwVm 1 F.2.2.2.2.1 (fun _ h => h) mw_454 mw_719 mw_452 mw_453 mw_2 rfl rfl ydX7_ofHoop ⟨by decide, by decide⟩) (by omega) (ls_at hL2) rfl rfl hl.1 rfl (Nat.le_of_ble_eq_true rfl) dL_isPart_487 ⟨Nat.zero_le _, Nat.zero_le _⟩ (fun r10 C2 H locs hq hP hS => ?_)
  obtain ⟨hw10, hr10⟩ := hq; rw [hw10] at hP
  have hr10 := hr10.trans ((oh_7 hg5).trans hg13)
  subst hr10
  refine lv_aload_n F.1 F.2.1 dL_isPart_490 rfl (lv_at hl 8 rfl) ?_
  refine lv_bipush (v := 7) F.1 F.2.1 dL_isPart_491 (by decide) ?_
  refine w_iald F hP (by omega) hH2 (k := 7) rfl (by decide) (Nat.le_of_ble_eq_true rfl) (v := f 13) hv_7 dL_isPart_493 ?_
  refine lv_icmp_ne (tgt := 501) F.1 F.2.1 dL_isPart_494 (by decide) (fun c16 => False.elim (c16 rfl)) (fun c16 => ?_)
  refine lv_iconst (v := 1) F.1 F.2.1 dL_isPart_497 (by decide) ?_
  refine lv_goto (tgt := 502) F.1 F.2.1 dL_isPart_498 (by decide) ?_
  refine lv_istore (lv' := [(10, .int (1)), (9, .int (0)), (8, .int (f 18)), (7, .int (nI (k + 1))), (6, .int (4)), (5, .int (valAt f k)), (4, .int (kd)), (3, .int (nI k)), (2, .int (g1 8)), (1, .ref (ad 170)), (0, .ref (ad 0))]) F.1 F.2.1 dL_isPart_502 hl (by decide) rfl (fun ls hl => ?_)
  refine lv_iload F.1 F.2.1 dL_isPart_504 (lv_at hl 4 rfl) ?_
  refine lv_if_le (tgt := 615) F.1 F.2.1 dL_isPart_506 (by decide) (fun c17 => False.elim (by revert c17; decide)) (fun c17 => ?_)
  refine lv_iload F.1 F.2.1 dL_isPart_509 (lv_at hl 0 rfl) ?_
  refine lv_if_eq (tgt := 612) F.1 F.2.1 dL_isPart_511 (by decide) (fun c18 => False.elim (by revert c18; decide)) (fun c18 => ?_)
  refine lv_aload_n F.1 F.2.1 dL_isPart_514 rfl (lv_at hl 10 rfl) ?_
  refine lv_iconst (v := 1) F.1 F.2.1 dL_isPart_515 (by decide) ?_
  refine lv_iload F.1 F.2.1 dL_isPart_516 (lv_at hl 4 rfl) ?_
  refine lv_iadd F.1 F.2.1 dL_isPart_518 ?_
  refine lv_topi (fun v19 ev19 => ?_)
  have ev19 : v19 = 5 := ev19.trans (by decide)
  subst ev19
  refine w_calli F hP hS (k_count l D Y ad N hI hN _ hL2 5 (by decide) okg) (cwVm 1 F.2.2.2.2.1 (fun _ h => h) mw_482 mw_716 mw_480 mw_481 mw_2 rfl rfl ydX7_count ⟨by decide, by decide⟩) (by omega) (ls_at hL2) rfl rfl hl.1 rfl (Nat.le_of_ble_eq_true rfl) dL_isPart_519 ⟨Nat.zero_le _, Nat.zero_le _⟩ (fun r11 C2 H locs hq hP hS => ?_)
  obtain ⟨hw11, hr11⟩ := hq; rw [hw11] at hP
  have hr11 := hr11.trans (cn_5.trans e1)
  subst hr11
  refine lv_iload F.1 F.2.1 dL_isPart_522 (lv_at hl 2 rfl) ?_
  refine lv_iconst (v := 1) F.1 F.2.1 dL_isPart_524 (by decide) ?_
  refine lv_iadd F.1 F.2.1 dL_isPart_525 ?_
  refine lv_icmp_ne (tgt := 612) F.1 F.2.1 dL_isPart_526 (by decide) (fun c20 => False.elim (c20 rfl)) (fun c20 => ?_)
  refine lv_aload_n F.1 F.2.1 dL_isPart_529 rfl (lv_at hl 10 rfl) ?_
  refine lv_iconst (v := 0) F.1 F.2.1 dL_isPart_530 (by decide) ?_
  refine lv_iconst (v := 0) F.1 F.2.1 dL_isPart_531 (by decide) ?_
  refine w_calli F hP hS (k_run l D Y ad N hI hN _ hL2 0 0) (cwVm 2 F.2.2.2.2.1 (fun _ h => h) mw_465 mw_718 mw_463 mw_464 mw_2 rfl rfl ydX7_run ⟨by decide, by decide⟩) (by omega) (ls_at hL2) rfl rfl hl.1 rfl (Nat.le_of_ble_eq_true rfl) dL_isPart_532 ⟨Nat.zero_le _, Nat.zero_le _⟩ (fun r12 C2 H locs hq hP hS => ?_)
  obtain ⟨hw12, hr12⟩ := hq; rw [hw12] at hP
  have hr12 := hr12.trans ((rn_0_0 e2).trans e3)
  subst hr12
  refine lv_aload_n F.1 F.2.1 dL_isPart_535 rfl (lv_at hl 9 rfl) ?_
  refine lv_iconst (v := 0) F.1 F.2.1 dL_isPart_536 (by decide) ?_
  refine w_iald F hP (by omega) hH2 (k := 0) rfl (by decide) (Nat.le_of_ble_eq_true rfl) (v := f 6) hv_0 dL_isPart_537 ?_
  refine lv_icmp_ne (tgt := 612) F.1 F.2.1 dL_isPart_538 (by decide) (fun c21 => False.elim (c21 rfl)) (fun c21 => ?_)
  refine lv_aload_n F.1 F.2.1 dL_isPart_541 rfl (lv_at hl 10 rfl) ?_
  refine lv_iconst (v := 0) F.1 F.2.1 dL_isPart_542 (by decide) ?_
  refine lv_iconst (v := 1) F.1 F.2.1 dL_isPart_543 (by decide) ?_
  refine w_calli F hP hS (k_run l D Y ad N hI hN _ hL2 0 1) (cwVm 2 F.2.2.2.2.1 (fun _ h => h) mw_465 mw_718 mw_463 mw_464 mw_2 rfl rfl ydX7_run ⟨by decide, by decide⟩) (by omega) (ls_at hL2) rfl rfl hl.1 rfl (Nat.le_of_ble_eq_true rfl) dL_isPart_544 ⟨Nat.zero_le _, Nat.zero_le _⟩ (fun r13 C2 H locs hq hP hS => ?_)
  obtain ⟨hw13, hr13⟩ := hq; rw [hw13] at hP
  have hr13 := hr13.trans ((rn_0_1 e2).trans e4)
  subst hr13
  refine lv_iload F.1 F.2.1 dL_isPart_547 (lv_at hl 4 rfl) ?_
  refine lv_icmp_ne (tgt := 612) F.1 F.2.1 dL_isPart_549 (by decide) (fun c22 => False.elim (c22 rfl)) (fun c22 => ?_)
  refine lv_aload_n F.1 F.2.1 dL_isPart_552 rfl (lv_at hl 10 rfl) ?_
  refine lv_iconst (v := 0) F.1 F.2.1 dL_isPart_553 (by decide) ?_
  refine lv_iconst (v := 2) F.1 F.2.1 dL_isPart_554 (by decide) ?_
  refine w_calli F hP hS (k_run l D Y ad N hI hN _ hL2 0 2) (cwVm 2 F.2.2.2.2.1 (fun _ h => h) mw_465 mw_718 mw_463 mw_464 mw_2 rfl rfl ydX7_run ⟨by decide, by decide⟩) (by omega) (ls_at hL2) rfl rfl hl.1 rfl (Nat.le_of_ble_eq_true rfl) dL_isPart_555 ⟨Nat.zero_le _, Nat.zero_le _⟩ (fun r14 C2 H locs hq hP hS => ?_)
  obtain ⟨hw14, hr14⟩ := hq; rw [hw14] at hP
  have hr14 := hr14.trans ((rn_0_2 e2).trans e5)
  subst hr14
  refine lv_iload F.1 F.2.1 dL_isPart_558 (lv_at hl 3 rfl) ?_
  refine lv_icmp_ne (tgt := 612) F.1 F.2.1 dL_isPart_560 (by decide) (fun c23 => False.elim (c23 rfl)) (fun c23 => ?_)
  refine lv_aload_n F.1 F.2.1 dL_isPart_563 rfl (lv_at hl 10 rfl) ?_
  refine lv_iconst (v := 0) F.1 F.2.1 dL_isPart_564 (by decide) ?_
  refine lv_iconst (v := 3) F.1 F.2.1 dL_isPart_565 (by decide) ?_
  refine w_calli F hP hS (k_run l D Y ad N hI hN _ hL2 0 3) (cwVm 2 F.2.2.2.2.1 (fun _ h => h) mw_465 mw_718 mw_463 mw_464 mw_2 rfl rfl ydX7_run ⟨by decide, by decide⟩) (by omega) (ls_at hL2) rfl rfl hl.1 rfl (Nat.le_of_ble_eq_true rfl) dL_isPart_566 ⟨Nat.zero_le _, Nat.zero_le _⟩ (fun r15 C2 H locs hq hP hS => ?_)
  obtain ⟨hw15, hr15⟩ := hq; rw [hw15] at hP
  have hr15 := hr15.trans ((rn_0_3 e2).trans e6)
  subst hr15
  refine lv_aload_n F.1 F.2.1 dL_isPart_569 rfl (lv_at hl 9 rfl) ?_
  refine lv_bipush (v := 6) F.1 F.2.1 dL_isPart_570 (by decide) ?_
  refine w_iald F hP (by omega) hH2 (k := 6) rfl (by decide) (Nat.le_of_ble_eq_true rfl) (v := f 12) hv_6 dL_isPart_572 ?_
  refine lv_icmp_ne (tgt := 612) F.1 F.2.1 dL_isPart_573 (by decide) (fun c24 => False.elim (c24 rfl)) (fun c24 => ?_)
  refine lv_aload_n F.1 F.2.1 dL_isPart_576 rfl (lv_at hl 10 rfl) ?_
  refine lv_iconst (v := 1) F.1 F.2.1 dL_isPart_577 (by decide) ?_
  refine w_calli F hP hS (k_roll_n l D Y ad N hI hN _ hL2 (fun q => absurd (hg11.symm.trans q.2) (by decide)) okg (by omega)) (cwVm 1 F.2.2.2.2.1 (fun _ h => h) mw_278 mw_720 mw_276 mw_277 mw_2 rfl rfl ydX7_roll ⟨by decide, by decide⟩) (by omega) (ls_at hL2) rfl rfl hl.1 rfl (Nat.le_of_ble_eq_true rfl) dL_isPart_578 ⟨Nat.zero_le _, Nat.zero_le _⟩ (fun r16 C2 H locs hq hP hS => ?_)
  obtain ⟨hw16, hr16⟩ := hq; rw [hw16] at hP
  subst hr16
  refine lv_bipush (v := (-5)) F.1 F.2.1 dL_isPart_581 (by decide) ?_
  refine lv_icmp_ne (tgt := 612) F.1 F.2.1 dL_isPart_583 (by decide) (fun c25 => False.elim (c25 rfl)) (fun c25 => ?_)
  refine lv_iload F.1 F.2.1 dL_isPart_586 (lv_at hl 4 rfl) ?_
  refine lv_iconst (v := 4) F.1 F.2.1 dL_isPart_588 (by decide) ?_
  refine lv_icmp_eq (tgt := 608) F.1 F.2.1 dL_isPart_589 (by decide) (fun c26 => ?_) (fun c26 => False.elim (by revert c26; decide))
  refine lv_iconst (v := 1) F.1 F.2.1 dL_isPart_608 (by decide) ?_
  refine lv_goto (tgt := 613) F.1 F.2.1 dL_isPart_609 (by decide) ?_
  refine lv_istore (lv' := [(10, .int (1)), (9, .int (0)), (8, .int (f 18)), (7, .int (nI (k + 1))), (6, .int (4)), (5, .int (valAt f k)), (4, .int (kd)), (3, .int (nI k)), (2, .int (g1 8)), (1, .ref (ad 170)), (0, .ref (ad 0))]) F.1 F.2.1 dL_isPart_613 hl (by decide) rfl (fun ls hl => ?_)
  refine lv_iload F.1 F.2.1 dL_isPart_615 (lv_at hl 0 rfl) ?_
  exact w_zret F hr hlocks hP hS (Or.inr rfl) dL_isPart_617 ⟨rfl, hL2, _, hH2⟩
set_option maxRecDepth 20000 in
set_option maxHeartbeats 4000000 in
theorem ip_how_0 {p : Program} {l : Launch} {e : Env} {s : State} {m : MethodId} {below : List Frame} {meth : Method} {c : Code} {args : Array Value} {D : va_G} {Y : Nat → ClassId} {ad : Nat → Nat} {N : Nat} (hI : wI ad N) (hN : 171 ≤ N) (F : wFix p s m c args cL_isPart RL 11 D Y ad N) (hr : meth.sig.returnType = some .boolean) (hlocks : meth.locks = false) {C : Nat → va_E} {f : Nat → Int32} {sl : Nat → Nat → Int32} {sv : Nat → Int32} {hv : Nat → Int32} {B : Int} {H : Heap} {locs : List Loc} (hP : wP D ad N C H) (hS : va_S (wA ad N) s.heap H locs) (hL : kLS Y ad C f sl sv) (hH : C 170 = .inl (Y 0, 8, .inl hv)) (hok : okRow B f) (hB0 : 0 ≤ B) (hB : B + 5000 ≤ 900000000) (h5 : f 5 = 1) (h11 : f 11 = 0) {k n : Nat} (h10 : f 10 = nI k) (h4 : f 4 = nI n) (hkn : k < n) (hn : n ≤ 20) {M : Nat → Int32} (eM : (T_meet k f).1 = M) (hv_0 : hv 0 = f 6) (hv_1 : hv 1 = M 7) (hv_3 : hv 3 = M 9) (hm : (T_meet k f).2 = 0) {x7 : Int32} {g1 : Nat → Int32} (kx : ∀ (w : Int32) (H : Heap) (locs : List Loc) (ls : Array Slot), wP D ad N C H → va_S (wA ad N) s.heap H locs → T_hw f k = w → lv_has ls 11 [(6, .int w), (5, .int (valAt f k)), (4, .int 0), (3, .int (nI k)), (2, .int (M 8)), (1, .ref (ad 170)), (0, .ref (ad 0))] → W p l e { frames := 7, cells := 0, slots := 0, locals := 151 } s m args below meth c H locs 0 0 (MQ below (wQi D ad N (fun r C' => r = 1 ∧ kLT Y ad C' g1 sl sv)) args s 0 0 (wA ad N)) (F0 m 330 ls [])) {ls : Array Slot} (hl : lv_has ls 11 [(7, .int x7), (6, .int 0), (5, .int (valAt f k)), (4, .int 0), (3, .int (nI k)), (2, .int (M 8)), (1, .ref (ad 170)), (0, .ref (ad 0))]) : W p l e { frames := 7, cells := 0, slots := 0, locals := 151 } s m args below meth c H locs 0 0 (MQ below (wQi D ad N (fun r C' => r = 1 ∧ kLT Y ad C' g1 sl sv)) args s 0 0 (wA ad N)) (F0 m 255 ls []) := by
  refine lv_iload F.1 F.2.1 dL_isPart_255 (lv_at hl 3 rfl) ?_
  refine lv_iconst (v := 1) F.1 F.2.1 dL_isPart_257 (by decide) ?_
  refine lv_icmp_ne (tgt := 271) F.1 F.2.1 dL_isPart_258 (by decide) (fun c1 => ?_) (fun c1 => False.elim (by revert c1; decide))
  refine lv_iload F.1 F.2.1 dL_isPart_271 (lv_at hl 3 rfl) ?_
  refine lv_iconst (v := 2) F.1 F.2.1 dL_isPart_273 (by decide) ?_
  refine lv_icmp_ne (tgt := 295) F.1 F.2.1 dL_isPart_274 (by decide) (fun c2 => ?_) (fun c2 => False.elim (by revert c2; decide))
  refine lv_iload_n F.1 F.2.1 dL_isPart_295 rfl (lv_at hl 5 rfl) ?_
  refine w_calls F hP hS (c_L_size l D Y ad N hI _ (M 8)) (cwSm 1 F.2.2.2.2.1 (fun _ h => h) mw_758 mw_756 mw_757 mw_714 rfl rfl ydL_size ⟨by decide, by decide⟩) rfl hl.1 rfl (Nat.le_of_ble_eq_true rfl) dL_isPart_296 ⟨Nat.zero_le _, Nat.zero_le _⟩ (fun r1 C2 H locs hq hP hS => ?_)
  obtain ⟨hw1, hr1⟩ := hq; rw [hw1] at hP
  subst hr1
  refine lv_aload_n F.1 F.2.1 dL_isPart_299 rfl (lv_at hl 7 rfl) ?_
  refine lv_bipush (v := 10) F.1 F.2.1 dL_isPart_300 (by decide) ?_
  refine w_calli F hP hS (k_count l D Y ad N hI hN _ hL 10 (by decide) hok) (cwVm 1 F.2.2.2.2.1 (fun _ h => h) mw_482 mw_716 mw_480 mw_481 mw_2 rfl rfl ydX7_count ⟨by decide, by decide⟩) (by omega) (ls_at hL) rfl rfl hl.1 rfl (Nat.le_of_ble_eq_true rfl) dL_isPart_302 ⟨Nat.zero_le _, Nat.zero_le _⟩ (fun r2 C2 H locs hq hP hS => ?_)
  obtain ⟨hw2, hr2⟩ := hq; rw [hw2] at hP
  have hr2 := hr2.trans cn_10
  subst hr2
  refine lv_icmp_lt (tgt := 312) F.1 F.2.1 dL_isPart_305 (by decide) (fun c3 => ?_) (fun c3 => ?_)
  · refine lv_iload_n F.1 F.2.1 dL_isPart_312 rfl (lv_at hl 4 rfl) ?_
    refine lv_iconst (v := 1) F.1 F.2.1 dL_isPart_313 (by decide) ?_
    refine lv_iadd F.1 F.2.1 dL_isPart_314 ?_
    refine lv_topi (fun v4 ev4 => ?_)
    have ev4 : v4 = nI (k + 1) := ev4.trans (nI_succ k).symm
    subst ev4
    refine lv_aload_n F.1 F.2.1 dL_isPart_315 rfl (lv_at hl 7 rfl) ?_
    refine lv_iconst (v := 0) F.1 F.2.1 dL_isPart_316 (by decide) ?_
    refine w_calli F hP hS (k_count l D Y ad N hI hN _ hL 0 (by decide) hok) (cwVm 1 F.2.2.2.2.1 (fun _ h => h) mw_482 mw_716 mw_480 mw_481 mw_2 rfl rfl ydX7_count ⟨by decide, by decide⟩) (by omega) (ls_at hL) rfl rfl hl.1 rfl (Nat.le_of_ble_eq_true rfl) dL_isPart_317 ⟨Nat.zero_le _, Nat.zero_le _⟩ (fun r3 C2 H locs hq hP hS => ?_)
    obtain ⟨hw3, hr3⟩ := hq; rw [hw3] at hP
    have hr3 := hr3.trans (cn_0.trans h4)
    subst hr3
    refine lv_icmp_ne (tgt := 327) F.1 F.2.1 dL_isPart_320 (by decide) (fun c5 => ?_) (fun c5 => ?_)
    · refine lv_iconst (v := 0) F.1 F.2.1 dL_isPart_327 (by decide) ?_
      refine lv_istore (lv' := [(6, .int (0)), (7, .int (x7)), (5, .int (valAt f k)), (4, .int (0)), (3, .int (nI k)), (2, .int (M 8)), (1, .ref (ad 170)), (0, .ref (ad 0))]) F.1 F.2.1 dL_isPart_328 hl (by decide) rfl (fun ls hl => ?_)
      refine kx 0 _ _ _ hP hS ?_ (lv_sub hl [0, 2, 3, 4, 5, 6, 7] rfl)
      unfold T_hw
      rw [if_pos hm, eM, h10, h4, ← nI_succ]
      rw [if_neg (i_nle c3)]
      have q : ¬ k + 1 = n := fun z => c5 (by rw [z])
      exact if_pos (nI_lt (by omega) (by omega))
    · refine lv_iconst (v := 4) F.1 F.2.1 dL_isPart_323 (by decide) ?_
      refine lv_goto (tgt := 328) F.1 F.2.1 dL_isPart_324 (by decide) ?_
      refine lv_istore (lv' := [(6, .int (4)), (7, .int (x7)), (5, .int (valAt f k)), (4, .int (0)), (3, .int (nI k)), (2, .int (M 8)), (1, .ref (ad 170)), (0, .ref (ad 0))]) F.1 F.2.1 dL_isPart_328 hl (by decide) rfl (fun ls hl => ?_)
      refine kx 4 _ _ _ hP hS ?_ (lv_sub hl [0, 2, 3, 4, 5, 6, 7] rfl)
      unfold T_hw
      rw [if_pos hm, eM, h10, h4, ← nI_succ]
      rw [if_neg (i_nle c3)]
      have q := (nI_eq (a := k + 1) (b := n) (by omega) (by omega)).mp (c5)
      exact if_neg (nI_nlt (by omega) (by omega))
  · refine lv_iconst (v := 1) F.1 F.2.1 dL_isPart_308 (by decide) ?_
    refine lv_goto (tgt := 328) F.1 F.2.1 dL_isPart_309 (by decide) ?_
    refine lv_istore (lv' := [(6, .int (1)), (7, .int (x7)), (5, .int (valAt f k)), (4, .int (0)), (3, .int (nI k)), (2, .int (M 8)), (1, .ref (ad 170)), (0, .ref (ad 0))]) F.1 F.2.1 dL_isPart_328 hl (by decide) rfl (fun ls hl => ?_)
    refine kx 1 _ _ _ hP hS ?_ (lv_sub hl [0, 2, 3, 4, 5, 6, 7] rfl)
    unfold T_hw
    rw [if_pos hm, eM, h10, h4, ← nI_succ]
    exact if_pos (i_le c3)
set_option maxRecDepth 20000 in
set_option maxHeartbeats 4000000 in
theorem ip_how_1 {p : Program} {l : Launch} {e : Env} {s : State} {m : MethodId} {below : List Frame} {meth : Method} {c : Code} {args : Array Value} {D : va_G} {Y : Nat → ClassId} {ad : Nat → Nat} {N : Nat} (hI : wI ad N) (hN : 171 ≤ N) (F : wFix p s m c args cL_isPart RL 11 D Y ad N) (hr : meth.sig.returnType = some .boolean) (hlocks : meth.locks = false) {C : Nat → va_E} {f : Nat → Int32} {sl : Nat → Nat → Int32} {sv : Nat → Int32} {hv : Nat → Int32} {B : Int} {H : Heap} {locs : List Loc} (hP : wP D ad N C H) (hS : va_S (wA ad N) s.heap H locs) (hL : kLS Y ad C f sl sv) (hH : C 170 = .inl (Y 0, 8, .inl hv)) (hok : okRow B f) (hB0 : 0 ≤ B) (hB : B + 5000 ≤ 900000000) (h5 : f 5 = 1) (h11 : f 11 = 0) {k n : Nat} (h10 : f 10 = nI k) (h4 : f 4 = nI n) (hkn : k < n) (hn : n ≤ 20) {M : Nat → Int32} (eM : (T_meet k f).1 = M) (hv_0 : hv 0 = f 6) (hv_1 : hv 1 = M 7) (hv_3 : hv 3 = M 9) (hm : (T_meet k f).2 = if M 7 = 0 then 3 else 0) {x7 : Int32} {g1 : Nat → Int32} (kx : ∀ (w : Int32) (H : Heap) (locs : List Loc) (ls : Array Slot), wP D ad N C H → va_S (wA ad N) s.heap H locs → T_hw f k = w → lv_has ls 11 [(6, .int w), (5, .int (valAt f k)), (4, .int 1), (3, .int (nI k)), (2, .int (M 8)), (1, .ref (ad 170)), (0, .ref (ad 0))] → W p l e { frames := 7, cells := 0, slots := 0, locals := 151 } s m args below meth c H locs 0 0 (MQ below (wQi D ad N (fun r C' => r = 1 ∧ kLT Y ad C' g1 sl sv)) args s 0 0 (wA ad N)) (F0 m 330 ls [])) {ls : Array Slot} (hl : lv_has ls 11 [(7, .int x7), (6, .int 0), (5, .int (valAt f k)), (4, .int 1), (3, .int (nI k)), (2, .int (M 8)), (1, .ref (ad 170)), (0, .ref (ad 0))]) : W p l e { frames := 7, cells := 0, slots := 0, locals := 151 } s m args below meth c H locs 0 0 (MQ below (wQi D ad N (fun r C' => r = 1 ∧ kLT Y ad C' g1 sl sv)) args s 0 0 (wA ad N)) (F0 m 255 ls []) := by
  refine lv_iload F.1 F.2.1 dL_isPart_255 (lv_at hl 3 rfl) ?_
  refine lv_iconst (v := 1) F.1 F.2.1 dL_isPart_257 (by decide) ?_
  refine lv_icmp_ne (tgt := 271) F.1 F.2.1 dL_isPart_258 (by decide) (fun c1 => False.elim (by revert c1; decide)) (fun c1 => ?_)
  refine lv_aload_n F.1 F.2.1 dL_isPart_261 rfl (lv_at hl 6 rfl) ?_
  refine lv_iconst (v := 1) F.1 F.2.1 dL_isPart_262 (by decide) ?_
  refine w_iald F hP (by omega) hH (k := 1) rfl (by decide) (Nat.le_of_ble_eq_true rfl) (v := M 7) hv_1 dL_isPart_263 ?_
  refine lv_if_ne (tgt := 271) F.1 F.2.1 dL_isPart_264 (by decide) (fun c2 => ?_) (fun c2 => ?_)
  · refine lv_iload F.1 F.2.1 dL_isPart_271 (lv_at hl 3 rfl) ?_
    refine lv_iconst (v := 2) F.1 F.2.1 dL_isPart_273 (by decide) ?_
    refine lv_icmp_ne (tgt := 295) F.1 F.2.1 dL_isPart_274 (by decide) (fun c3 => ?_) (fun c3 => False.elim (by revert c3; decide))
    refine lv_iload_n F.1 F.2.1 dL_isPart_295 rfl (lv_at hl 5 rfl) ?_
    refine w_calls F hP hS (c_L_size l D Y ad N hI _ (M 8)) (cwSm 1 F.2.2.2.2.1 (fun _ h => h) mw_758 mw_756 mw_757 mw_714 rfl rfl ydL_size ⟨by decide, by decide⟩) rfl hl.1 rfl (Nat.le_of_ble_eq_true rfl) dL_isPart_296 ⟨Nat.zero_le _, Nat.zero_le _⟩ (fun r1 C2 H locs hq hP hS => ?_)
    obtain ⟨hw1, hr1⟩ := hq; rw [hw1] at hP
    subst hr1
    refine lv_aload_n F.1 F.2.1 dL_isPart_299 rfl (lv_at hl 7 rfl) ?_
    refine lv_bipush (v := 10) F.1 F.2.1 dL_isPart_300 (by decide) ?_
    refine w_calli F hP hS (k_count l D Y ad N hI hN _ hL 10 (by decide) hok) (cwVm 1 F.2.2.2.2.1 (fun _ h => h) mw_482 mw_716 mw_480 mw_481 mw_2 rfl rfl ydX7_count ⟨by decide, by decide⟩) (by omega) (ls_at hL) rfl rfl hl.1 rfl (Nat.le_of_ble_eq_true rfl) dL_isPart_302 ⟨Nat.zero_le _, Nat.zero_le _⟩ (fun r2 C2 H locs hq hP hS => ?_)
    obtain ⟨hw2, hr2⟩ := hq; rw [hw2] at hP
    have hr2 := hr2.trans cn_10
    subst hr2
    refine lv_icmp_lt (tgt := 312) F.1 F.2.1 dL_isPart_305 (by decide) (fun c4 => ?_) (fun c4 => ?_)
    · refine lv_iload_n F.1 F.2.1 dL_isPart_312 rfl (lv_at hl 4 rfl) ?_
      refine lv_iconst (v := 1) F.1 F.2.1 dL_isPart_313 (by decide) ?_
      refine lv_iadd F.1 F.2.1 dL_isPart_314 ?_
      refine lv_topi (fun v5 ev5 => ?_)
      have ev5 : v5 = nI (k + 1) := ev5.trans (nI_succ k).symm
      subst ev5
      refine lv_aload_n F.1 F.2.1 dL_isPart_315 rfl (lv_at hl 7 rfl) ?_
      refine lv_iconst (v := 0) F.1 F.2.1 dL_isPart_316 (by decide) ?_
      refine w_calli F hP hS (k_count l D Y ad N hI hN _ hL 0 (by decide) hok) (cwVm 1 F.2.2.2.2.1 (fun _ h => h) mw_482 mw_716 mw_480 mw_481 mw_2 rfl rfl ydX7_count ⟨by decide, by decide⟩) (by omega) (ls_at hL) rfl rfl hl.1 rfl (Nat.le_of_ble_eq_true rfl) dL_isPart_317 ⟨Nat.zero_le _, Nat.zero_le _⟩ (fun r3 C2 H locs hq hP hS => ?_)
      obtain ⟨hw3, hr3⟩ := hq; rw [hw3] at hP
      have hr3 := hr3.trans (cn_0.trans h4)
      subst hr3
      refine lv_icmp_ne (tgt := 327) F.1 F.2.1 dL_isPart_320 (by decide) (fun c6 => ?_) (fun c6 => ?_)
      · refine lv_iconst (v := 0) F.1 F.2.1 dL_isPart_327 (by decide) ?_
        refine lv_istore (lv' := [(6, .int (0)), (7, .int (x7)), (5, .int (valAt f k)), (4, .int (1)), (3, .int (nI k)), (2, .int (M 8)), (1, .ref (ad 170)), (0, .ref (ad 0))]) F.1 F.2.1 dL_isPart_328 hl (by decide) rfl (fun ls hl => ?_)
        refine kx 0 _ _ _ hP hS ?_ (lv_sub hl [0, 2, 3, 4, 5, 6, 7] rfl)
        unfold T_hw
        rw [if_pos (hm.trans (if_neg c2)), eM, h10, h4, ← nI_succ]
        rw [if_neg (i_nle c4)]
        have q : ¬ k + 1 = n := fun z => c6 (by rw [z])
        exact if_pos (nI_lt (by omega) (by omega))
      · refine lv_iconst (v := 4) F.1 F.2.1 dL_isPart_323 (by decide) ?_
        refine lv_goto (tgt := 328) F.1 F.2.1 dL_isPart_324 (by decide) ?_
        refine lv_istore (lv' := [(6, .int (4)), (7, .int (x7)), (5, .int (valAt f k)), (4, .int (1)), (3, .int (nI k)), (2, .int (M 8)), (1, .ref (ad 170)), (0, .ref (ad 0))]) F.1 F.2.1 dL_isPart_328 hl (by decide) rfl (fun ls hl => ?_)
        refine kx 4 _ _ _ hP hS ?_ (lv_sub hl [0, 2, 3, 4, 5, 6, 7] rfl)
        unfold T_hw
        rw [if_pos (hm.trans (if_neg c2)), eM, h10, h4, ← nI_succ]
        rw [if_neg (i_nle c4)]
        have q := (nI_eq (a := k + 1) (b := n) (by omega) (by omega)).mp (c6)
        exact if_neg (nI_nlt (by omega) (by omega))
    · refine lv_iconst (v := 1) F.1 F.2.1 dL_isPart_308 (by decide) ?_
      refine lv_goto (tgt := 328) F.1 F.2.1 dL_isPart_309 (by decide) ?_
      refine lv_istore (lv' := [(6, .int (1)), (7, .int (x7)), (5, .int (valAt f k)), (4, .int (1)), (3, .int (nI k)), (2, .int (M 8)), (1, .ref (ad 170)), (0, .ref (ad 0))]) F.1 F.2.1 dL_isPart_328 hl (by decide) rfl (fun ls hl => ?_)
      refine kx 1 _ _ _ hP hS ?_ (lv_sub hl [0, 2, 3, 4, 5, 6, 7] rfl)
      unfold T_hw
      rw [if_pos (hm.trans (if_neg c2)), eM, h10, h4, ← nI_succ]
      exact if_pos (i_le c4)
  · refine lv_iconst (v := 3) F.1 F.2.1 dL_isPart_267 (by decide) ?_
    refine lv_goto (tgt := 328) F.1 F.2.1 dL_isPart_268 (by decide) ?_
    refine lv_istore (lv' := [(6, .int (3)), (7, .int (x7)), (5, .int (valAt f k)), (4, .int (1)), (3, .int (nI k)), (2, .int (M 8)), (1, .ref (ad 170)), (0, .ref (ad 0))]) F.1 F.2.1 dL_isPart_328 hl (by decide) rfl (fun ls hl => ?_)
    refine kx 3 _ _ _ hP hS ?_ (lv_sub hl [0, 2, 3, 4, 5, 6, 7] rfl)
    unfold T_hw
    rw [(hm.trans (if_pos c2)), if_neg (by decide)]
set_option maxRecDepth 20000 in
set_option maxHeartbeats 4000000 in
theorem ip_how_2 {p : Program} {l : Launch} {e : Env} {s : State} {m : MethodId} {below : List Frame} {meth : Method} {c : Code} {args : Array Value} {D : va_G} {Y : Nat → ClassId} {ad : Nat → Nat} {N : Nat} (hI : wI ad N) (hN : 171 ≤ N) (F : wFix p s m c args cL_isPart RL 11 D Y ad N) (hr : meth.sig.returnType = some .boolean) (hlocks : meth.locks = false) {C : Nat → va_E} {f : Nat → Int32} {sl : Nat → Nat → Int32} {sv : Nat → Int32} {hv : Nat → Int32} {B : Int} {H : Heap} {locs : List Loc} (hP : wP D ad N C H) (hS : va_S (wA ad N) s.heap H locs) (hL : kLS Y ad C f sl sv) (hH : C 170 = .inl (Y 0, 8, .inl hv)) (hok : okRow B f) (hB0 : 0 ≤ B) (hB : B + 5000 ≤ 900000000) (h5 : f 5 = 1) (h11 : f 11 = 0) {k n : Nat} (h10 : f 10 = nI k) (h4 : f 4 = nI n) (hkn : k < n) (hn : n ≤ 20) {M : Nat → Int32} (eM : (T_meet k f).1 = M) (hv_0 : hv 0 = f 6) (hv_1 : hv 1 = M 7) (hv_3 : hv 3 = M 9) (hm : (T_meet k f).2 = if valAt f k < f 6 + M 9 / 4 then 2 else 0) {x7 : Int32} {g1 : Nat → Int32} (kx : ∀ (w : Int32) (H : Heap) (locs : List Loc) (ls : Array Slot), wP D ad N C H → va_S (wA ad N) s.heap H locs → T_hw f k = w → lv_has ls 11 [(6, .int w), (5, .int (valAt f k)), (4, .int 2), (3, .int (nI k)), (2, .int (M 8)), (1, .ref (ad 170)), (0, .ref (ad 0))] → W p l e { frames := 7, cells := 0, slots := 0, locals := 151 } s m args below meth c H locs 0 0 (MQ below (wQi D ad N (fun r C' => r = 1 ∧ kLT Y ad C' g1 sl sv)) args s 0 0 (wA ad N)) (F0 m 330 ls [])) {ls : Array Slot} (hl : lv_has ls 11 [(7, .int x7), (6, .int 0), (5, .int (valAt f k)), (4, .int 2), (3, .int (nI k)), (2, .int (M 8)), (1, .ref (ad 170)), (0, .ref (ad 0))]) : W p l e { frames := 7, cells := 0, slots := 0, locals := 151 } s m args below meth c H locs 0 0 (MQ below (wQi D ad N (fun r C' => r = 1 ∧ kLT Y ad C' g1 sl sv)) args s 0 0 (wA ad N)) (F0 m 255 ls []) := by
  refine lv_iload F.1 F.2.1 dL_isPart_255 (lv_at hl 3 rfl) ?_
  refine lv_iconst (v := 1) F.1 F.2.1 dL_isPart_257 (by decide) ?_
  refine lv_icmp_ne (tgt := 271) F.1 F.2.1 dL_isPart_258 (by decide) (fun c1 => ?_) (fun c1 => False.elim (by revert c1; decide))
  refine lv_iload F.1 F.2.1 dL_isPart_271 (lv_at hl 3 rfl) ?_
  refine lv_iconst (v := 2) F.1 F.2.1 dL_isPart_273 (by decide) ?_
  refine lv_icmp_ne (tgt := 295) F.1 F.2.1 dL_isPart_274 (by decide) (fun c2 => False.elim (by revert c2; decide)) (fun c2 => ?_)
  refine lv_aload_n F.1 F.2.1 dL_isPart_277 rfl (lv_at hl 6 rfl) ?_
  refine lv_iconst (v := 0) F.1 F.2.1 dL_isPart_278 (by decide) ?_
  refine w_iald F hP (by omega) hH (k := 0) rfl (by decide) (Nat.le_of_ble_eq_true rfl) (v := f 6) hv_0 dL_isPart_279 ?_
  refine lv_aload_n F.1 F.2.1 dL_isPart_280 rfl (lv_at hl 6 rfl) ?_
  refine lv_iconst (v := 3) F.1 F.2.1 dL_isPart_281 (by decide) ?_
  refine w_iald F hP (by omega) hH (k := 3) rfl (by decide) (Nat.le_of_ble_eq_true rfl) (v := M 9) hv_3 dL_isPart_282 ?_
  refine lv_iconst (v := 4) F.1 F.2.1 dL_isPart_283 (by decide) ?_
  refine lv_idiv F.1 F.2.1 dL_isPart_284 (by decide) ?_
  refine lv_iadd F.1 F.2.1 dL_isPart_285 ?_
  refine lv_iload F.1 F.2.1 dL_isPart_286 (lv_at hl 2 rfl) ?_
  refine lv_icmp_le (tgt := 295) F.1 F.2.1 dL_isPart_288 (by decide) (fun c3 => ?_) (fun c3 => ?_)
  · refine lv_iload_n F.1 F.2.1 dL_isPart_295 rfl (lv_at hl 5 rfl) ?_
    refine w_calls F hP hS (c_L_size l D Y ad N hI _ (M 8)) (cwSm 1 F.2.2.2.2.1 (fun _ h => h) mw_758 mw_756 mw_757 mw_714 rfl rfl ydL_size ⟨by decide, by decide⟩) rfl hl.1 rfl (Nat.le_of_ble_eq_true rfl) dL_isPart_296 ⟨Nat.zero_le _, Nat.zero_le _⟩ (fun r1 C2 H locs hq hP hS => ?_)
    obtain ⟨hw1, hr1⟩ := hq; rw [hw1] at hP
    subst hr1
    refine lv_aload_n F.1 F.2.1 dL_isPart_299 rfl (lv_at hl 7 rfl) ?_
    refine lv_bipush (v := 10) F.1 F.2.1 dL_isPart_300 (by decide) ?_
    refine w_calli F hP hS (k_count l D Y ad N hI hN _ hL 10 (by decide) hok) (cwVm 1 F.2.2.2.2.1 (fun _ h => h) mw_482 mw_716 mw_480 mw_481 mw_2 rfl rfl ydX7_count ⟨by decide, by decide⟩) (by omega) (ls_at hL) rfl rfl hl.1 rfl (Nat.le_of_ble_eq_true rfl) dL_isPart_302 ⟨Nat.zero_le _, Nat.zero_le _⟩ (fun r2 C2 H locs hq hP hS => ?_)
    obtain ⟨hw2, hr2⟩ := hq; rw [hw2] at hP
    have hr2 := hr2.trans cn_10
    subst hr2
    refine lv_icmp_lt (tgt := 312) F.1 F.2.1 dL_isPart_305 (by decide) (fun c4 => ?_) (fun c4 => ?_)
    · refine lv_iload_n F.1 F.2.1 dL_isPart_312 rfl (lv_at hl 4 rfl) ?_
      refine lv_iconst (v := 1) F.1 F.2.1 dL_isPart_313 (by decide) ?_
      refine lv_iadd F.1 F.2.1 dL_isPart_314 ?_
      refine lv_topi (fun v5 ev5 => ?_)
      have ev5 : v5 = nI (k + 1) := ev5.trans (nI_succ k).symm
      subst ev5
      refine lv_aload_n F.1 F.2.1 dL_isPart_315 rfl (lv_at hl 7 rfl) ?_
      refine lv_iconst (v := 0) F.1 F.2.1 dL_isPart_316 (by decide) ?_
      refine w_calli F hP hS (k_count l D Y ad N hI hN _ hL 0 (by decide) hok) (cwVm 1 F.2.2.2.2.1 (fun _ h => h) mw_482 mw_716 mw_480 mw_481 mw_2 rfl rfl ydX7_count ⟨by decide, by decide⟩) (by omega) (ls_at hL) rfl rfl hl.1 rfl (Nat.le_of_ble_eq_true rfl) dL_isPart_317 ⟨Nat.zero_le _, Nat.zero_le _⟩ (fun r3 C2 H locs hq hP hS => ?_)
      obtain ⟨hw3, hr3⟩ := hq; rw [hw3] at hP
      have hr3 := hr3.trans (cn_0.trans h4)
      subst hr3
      refine lv_icmp_ne (tgt := 327) F.1 F.2.1 dL_isPart_320 (by decide) (fun c6 => ?_) (fun c6 => ?_)
      · refine lv_iconst (v := 0) F.1 F.2.1 dL_isPart_327 (by decide) ?_
        refine lv_istore (lv' := [(6, .int (0)), (7, .int (x7)), (5, .int (valAt f k)), (4, .int (2)), (3, .int (nI k)), (2, .int (M 8)), (1, .ref (ad 170)), (0, .ref (ad 0))]) F.1 F.2.1 dL_isPart_328 hl (by decide) rfl (fun ls hl => ?_)
        refine kx 0 _ _ _ hP hS ?_ (lv_sub hl [0, 2, 3, 4, 5, 6, 7] rfl)
        unfold T_hw
        rw [if_pos (hm.trans (if_neg (i_nlt c3))), eM, h10, h4, ← nI_succ]
        rw [if_neg (i_nle c4)]
        have q : ¬ k + 1 = n := fun z => c6 (by rw [z])
        exact if_pos (nI_lt (by omega) (by omega))
      · refine lv_iconst (v := 4) F.1 F.2.1 dL_isPart_323 (by decide) ?_
        refine lv_goto (tgt := 328) F.1 F.2.1 dL_isPart_324 (by decide) ?_
        refine lv_istore (lv' := [(6, .int (4)), (7, .int (x7)), (5, .int (valAt f k)), (4, .int (2)), (3, .int (nI k)), (2, .int (M 8)), (1, .ref (ad 170)), (0, .ref (ad 0))]) F.1 F.2.1 dL_isPart_328 hl (by decide) rfl (fun ls hl => ?_)
        refine kx 4 _ _ _ hP hS ?_ (lv_sub hl [0, 2, 3, 4, 5, 6, 7] rfl)
        unfold T_hw
        rw [if_pos (hm.trans (if_neg (i_nlt c3))), eM, h10, h4, ← nI_succ]
        rw [if_neg (i_nle c4)]
        have q := (nI_eq (a := k + 1) (b := n) (by omega) (by omega)).mp (c6)
        exact if_neg (nI_nlt (by omega) (by omega))
    · refine lv_iconst (v := 1) F.1 F.2.1 dL_isPart_308 (by decide) ?_
      refine lv_goto (tgt := 328) F.1 F.2.1 dL_isPart_309 (by decide) ?_
      refine lv_istore (lv' := [(6, .int (1)), (7, .int (x7)), (5, .int (valAt f k)), (4, .int (2)), (3, .int (nI k)), (2, .int (M 8)), (1, .ref (ad 170)), (0, .ref (ad 0))]) F.1 F.2.1 dL_isPart_328 hl (by decide) rfl (fun ls hl => ?_)
      refine kx 1 _ _ _ hP hS ?_ (lv_sub hl [0, 2, 3, 4, 5, 6, 7] rfl)
      unfold T_hw
      rw [if_pos (hm.trans (if_neg (i_nlt c3))), eM, h10, h4, ← nI_succ]
      exact if_pos (i_le c4)
  · refine lv_iconst (v := 2) F.1 F.2.1 dL_isPart_291 (by decide) ?_
    refine lv_goto (tgt := 328) F.1 F.2.1 dL_isPart_292 (by decide) ?_
    refine lv_istore (lv' := [(6, .int (2)), (7, .int (x7)), (5, .int (valAt f k)), (4, .int (2)), (3, .int (nI k)), (2, .int (M 8)), (1, .ref (ad 170)), (0, .ref (ad 0))]) F.1 F.2.1 dL_isPart_328 hl (by decide) rfl (fun ls hl => ?_)
    refine kx 2 _ _ _ hP hS ?_ (lv_sub hl [0, 2, 3, 4, 5, 6, 7] rfl)
    unfold T_hw
    rw [(hm.trans (if_pos (i_lt c3))), if_neg (by decide)]
