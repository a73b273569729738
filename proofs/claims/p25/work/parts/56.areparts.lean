/-! p25: areParts: the parts, the counters and the list of runs are as they must be -/
theorem il_0 {v : Int32} (h : 1 ≤ v.toInt) (q : v ≤ 0) : False := by
  have a := Int32.le_iff_toInt_le.mp q
  have z : (0 : Int32).toInt = 0 := rfl
  omega
theorem il_lt {v : Int32} (h : 0 ≤ v.toInt) (q : v < 0) : False := by
  have a := Int32.lt_iff_toInt_lt.mp q
  have z : (0 : Int32).toInt = 0 := rfl
  omega
theorem i_leF {x y : Int32} (h : y.toInt < x.toInt) (q : x ≤ y) : False := by
  have a := Int32.le_iff_toInt_le.mp q
  omega
theorem i_ltF {x y : Int32} (h : y.toInt ≤ x.toInt) (q : x < y) : False := by
  have a := Int32.lt_iff_toInt_lt.mp q
  omega
theorem en_nat {B : Int} {f : Nat → Int32} (h : okC B f) (hB : B ≤ 900000000) : ∃ e : Nat, f 15 + f 16 + f 17 + f 18 = nI e ∧ (e : Int) = enS f ∧ (e : Int) ≤ (f 14).toInt ∧ e < 900000001 := by
  obtain ⟨⟨a1, a2, a3, a4⟩, b, c, d, e, g⟩ := h
  have r := rlg_in f
  have s0 : enS f = (f 15).toInt + (f 16).toInt + (f 17).toInt + (f 18).toInt := rfl
  have i1 : (f 15 + f 16).toInt = (f 15).toInt + (f 16).toInt := i_add (by omega) (by omega)
  have i2 : (f 15 + f 16 + f 17).toInt = (f 15).toInt + (f 16).toInt + (f 17).toInt := by rw [i_add (by omega) (by omega), i1]
  have i3 : (f 15 + f 16 + f 17 + f 18).toInt = (f 15).toInt + (f 16).toInt + (f 17).toInt + (f 18).toInt := by rw [i_add (by omega) (by omega), i2]
  obtain ⟨q1, q2, q3⟩ := nI_rd (x := f 15 + f 16 + f 17 + f 18) (M := 900000000) (by omega) (by omega)
  exact ⟨_, q1, by omega, by omega, by omega⟩
set_option maxRecDepth 20000 in
set_option maxHeartbeats 4000000 in
/-- the parts are parts, the counters count -/
theorem c_L_areParts (l : Launch) (D : va_G) (Y : Nat → ClassId) (ad : Nat → Nat) (N : Nat) (hI : wI ad N) (C : Nat → va_E) (hN : 171 ≤ N) {f : Nat → Int32} {sl : Nat → Nat → Int32} {sv : Nat → Int32} (hL : kLS Y ad C f sl sv) {B : Int} (hJ : J B f) (hB0 : 0 ≤ B) (hB : B + 5000 ≤ 900000000) : Met l yL_areParts (wm yL_areParts cL_areParts 9 (some .boolean)) { frames := 5, cells := 0, slots := 0, locals := 108 } (wPc D Y ad N [.ref (ad 0)] C) (wQi D ad N (fun r C' => C' = C ∧ r = 1)) 0 0 (wA ad N) := by
  obtain ⟨n, h4, hn, e4n⟩ := n_at hJ.1
  have hok := hJ.1
  refine wMet RL rfl (by decide +kernel) (Nat.le_of_ble_eq_true rfl) (lv := [(0, .ref (ad 0))]) rfl ?_
  intro p e s m below meth c ls F hr hlocks hP hl
  have hS : va_S (wA ad N) s.heap s.heap [] := va_S.rf
  refine lv_aload_n F.1 F.2.1 dL_areParts_0 rfl (lv_at hl 0 rfl) ?_
  refine lv_iconst (v := 0) F.1 F.2.1 dL_areParts_1 (by decide) ?_
  refine w_calli F hP hS (k_count l D Y ad N hI hN _ hL 0 (by decide) hok) (cwVm 1 F.2.2.2.2.1 (fun _ h => h) mw_482 mw_716 mw_480 mw_481 mw_2 rfl rfl ydX7_count ⟨by decide, by decide⟩) (by omega) (ls_at hL) rfl rfl hl.1 rfl (Nat.le_of_ble_eq_true rfl) dL_areParts_2 ⟨Nat.zero_le _, Nat.zero_le _⟩ (fun r1 C2 H locs hq hP hS => ?_)
  obtain ⟨hw1, hr1⟩ := hq; rw [hw1] at hP
  have hr1 := hr1.trans (cn_0.trans h4)
  subst hr1
  refine lv_istore_n (lv' := [(1, .int (nI n)), (0, .ref (ad 0))]) F.1 F.2.1 dL_areParts_5 rfl hl (by decide) rfl (fun ls hl => ?_)
  refine lv_iconst (v := 0) F.1 F.2.1 dL_areParts_6 (by decide) ?_
  refine lv_istore_n (lv' := [(2, .int (0)), (1, .int (nI n)), (0, .ref (ad 0))]) F.1 F.2.1 dL_areParts_7 rfl hl (by decide) rfl (fun ls hl => ?_)
  refine lv_iconst (v := 0) F.1 F.2.1 dL_areParts_8 (by decide) ?_
  refine lv_istore_n (lv' := [(3, .int (0)), (2, .int (0)), (1, .int (nI n)), (0, .ref (ad 0))]) F.1 F.2.1 dL_areParts_9 rfl hl (by decide) rfl (fun ls hl => ?_)
  refine lv_iconst (v := 0) F.1 F.2.1 dL_areParts_10 (by decide) ?_
  refine lv_istore (lv' := [(4, .int (0)), (3, .int (0)), (2, .int (0)), (1, .int (nI n)), (0, .ref (ad 0))]) F.1 F.2.1 dL_areParts_11 hl (by decide) rfl (fun ls hl => ?_)
  refine lv_iconst (v := 0) F.1 F.2.1 dL_areParts_13 (by decide) ?_
  refine lv_istore (lv' := [(5, .int (0)), (4, .int (0)), (3, .int (0)), (2, .int (0)), (1, .int (nI n)), (0, .ref (ad 0))]) F.1 F.2.1 dL_areParts_14 hl (by decide) rfl (fun ls hl => ?_)
  refine w_loop (Inv := fun j ls C' => ∃ k : Nat, j = 21 - k ∧ k ≤ n ∧ C' = C ∧ lv_has ls 9 [(5, .int (nI k)), (4, .int (T_sum 1 f k)), (3, .int (T_sum 0 f k)), (2, .int (T_least f k)), (1, .int (nI n)), (0, .ref (ad 0))]) ?_ 21 ⟨0, rfl, Nat.zero_le _, rfl, lv_sub hl [0, 1, 2, 3, 4, 5] rfl⟩ hP hS
  intro j ih H locs ls C1 hInv hP hS
  obtain ⟨k, hj, hk, hC1, hl⟩ := hInv
  rw [hC1] at hP
  refine lv_iload F.1 F.2.1 dL_areParts_16 (lv_at hl 0 rfl) ?_
  refine lv_iload_n F.1 F.2.1 dL_areParts_18 rfl (lv_at hl 4 rfl) ?_
  refine lv_icmp_ge (tgt := 197) F.1 F.2.1 dL_areParts_19 (by decide) (fun c1 => ?_) (fun c1 => ?_)
  · have ek : n = k := by have q := (nI_leI (a := n) (b := k) (by omega) (by omega)).mp c1; omega
    subst ek
    obtain ⟨e1, he, heS, he14, hebd⟩ := en_nat hJ.2.2 (by omega)
    obtain ⟨-, b1, b2, b3, b4, b5⟩ := hJ.2.2
    refine lv_aload_n F.1 F.2.1 dL_areParts_197 rfl (lv_at hl 5 rfl) ?_
    refine lv_iconst (v := 2) F.1 F.2.1 dL_areParts_198 (by decide) ?_
    refine w_calli F hP hS (k_count l D Y ad N hI hN _ hL 2 (by decide) hok) (cwVm 1 F.2.2.2.2.1 (fun _ h => h) mw_482 mw_716 mw_480 mw_481 mw_2 rfl rfl ydX7_count ⟨by decide, by decide⟩) (by omega) (ls_at hL) rfl rfl hl.1 rfl (Nat.le_of_ble_eq_true rfl) dL_areParts_199 ⟨Nat.zero_le _, Nat.zero_le _⟩ (fun r2 C2 H locs hq hP hS => ?_)
    obtain ⟨hw2, hr2⟩ := hq; rw [hw2] at hP
    have hr2 := hr2.trans cn_2
    subst hr2
    refine lv_aload_n F.1 F.2.1 dL_areParts_202 rfl (lv_at hl 5 rfl) ?_
    refine lv_iconst (v := 3) F.1 F.2.1 dL_areParts_203 (by decide) ?_
    refine w_calli F hP hS (k_count l D Y ad N hI hN _ hL 3 (by decide) hok) (cwVm 1 F.2.2.2.2.1 (fun _ h => h) mw_482 mw_716 mw_480 mw_481 mw_2 rfl rfl ydX7_count ⟨by decide, by decide⟩) (by omega) (ls_at hL) rfl rfl hl.1 rfl (Nat.le_of_ble_eq_true rfl) dL_areParts_204 ⟨Nat.zero_le _, Nat.zero_le _⟩ (fun r3 C2 H locs hq hP hS => ?_)
    obtain ⟨hw3, hr3⟩ := hq; rw [hw3] at hP
    have hr3 := hr3.trans cn_3
    subst hr3
    refine lv_iadd F.1 F.2.1 dL_areParts_207 ?_
    refine lv_aload_n F.1 F.2.1 dL_areParts_208 rfl (lv_at hl 5 rfl) ?_
    refine lv_iconst (v := 4) F.1 F.2.1 dL_areParts_209 (by decide) ?_
    refine w_calli F hP hS (k_count l D Y ad N hI hN _ hL 4 (by decide) hok) (cwVm 1 F.2.2.2.2.1 (fun _ h => h) mw_482 mw_716 mw_480 mw_481 mw_2 rfl rfl ydX7_count ⟨by decide, by decide⟩) (by omega) (ls_at hL) rfl rfl hl.1 rfl (Nat.le_of_ble_eq_true rfl) dL_areParts_210 ⟨Nat.zero_le _, Nat.zero_le _⟩ (fun r4 C2 H locs hq hP hS => ?_)
    obtain ⟨hw4, hr4⟩ := hq; rw [hw4] at hP
    have hr4 := hr4.trans cn_4
    subst hr4
    refine lv_iadd F.1 F.2.1 dL_areParts_213 ?_
    refine lv_aload_n F.1 F.2.1 dL_areParts_214 rfl (lv_at hl 5 rfl) ?_
    refine lv_iconst (v := 5) F.1 F.2.1 dL_areParts_215 (by decide) ?_
    refine w_calli F hP hS (k_count l D Y ad N hI hN _ hL 5 (by decide) hok) (cwVm 1 F.2.2.2.2.1 (fun _ h => h) mw_482 mw_716 mw_480 mw_481 mw_2 rfl rfl ydX7_count ⟨by decide, by decide⟩) (by omega) (ls_at hL) rfl rfl hl.1 rfl (Nat.le_of_ble_eq_true rfl) dL_areParts_216 ⟨Nat.zero_le _, Nat.zero_le _⟩ (fun r5 C2 H locs hq hP hS => ?_)
    obtain ⟨hw5, hr5⟩ := hq; rw [hw5] at hP
    have hr5 := hr5.trans cn_5
    subst hr5
    refine lv_iadd F.1 F.2.1 dL_areParts_219 ?_
    refine lv_topi (fun v2 ev2 => ?_)
    have ev2 : v2 = nI e1 := ev2.trans he
    subst ev2
    refine lv_istore (lv' := [(5, .int (nI e1)), (4, .int (T_sum 1 f n)), (3, .int (T_sum 0 f n)), (2, .int (T_least f n)), (1, .int (nI n)), (0, .ref (ad 0))]) F.1 F.2.1 dL_areParts_220 hl (by decide) rfl (fun ls hl => ?_)
    refine lv_iload F.1 F.2.1 dL_areParts_222 (lv_at hl 0 rfl) ?_
    refine lv_aload_n F.1 F.2.1 dL_areParts_224 rfl (lv_at hl 5 rfl) ?_
    refine lv_iconst (v := 1) F.1 F.2.1 dL_areParts_225 (by decide) ?_
    refine w_calli F hP hS (k_count l D Y ad N hI hN _ hL 1 (by decide) hok) (cwVm 1 F.2.2.2.2.1 (fun _ h => h) mw_482 mw_716 mw_480 mw_481 mw_2 rfl rfl ydX7_count ⟨by decide, by decide⟩) (by omega) (ls_at hL) rfl rfl hl.1 rfl (Nat.le_of_ble_eq_true rfl) dL_areParts_226 ⟨Nat.zero_le _, Nat.zero_le _⟩ (fun r6 C2 H locs hq hP hS => ?_)
    obtain ⟨hw6, hr6⟩ := hq; rw [hw6] at hP
    have hr6 := hr6.trans cn_1
    subst hr6
    refine lv_icmp_gt (tgt := 291) F.1 F.2.1 dL_areParts_229 (by decide) (fun c3 => False.elim (i_ltF (by rw [nI_toInt (by omega)]; exact he14) c3)) (fun c3 => ?_)
    refine lv_iload F.1 F.2.1 dL_areParts_232 (lv_at hl 0 rfl) ?_
    refine lv_bipush (v := 10) F.1 F.2.1 dL_areParts_234 (by decide) ?_
    refine lv_icmp_ge (tgt := 253) F.1 F.2.1 dL_areParts_236 (by decide) (fun c4 => ?_) (fun c4 => ?_)
    · refine lv_aload_n F.1 F.2.1 dL_areParts_253 rfl (lv_at hl 5 rfl) ?_
      refine lv_bipush (v := 9) F.1 F.2.1 dL_areParts_254 (by decide) ?_
      refine lv_iconst (v := 0) F.1 F.2.1 dL_areParts_256 (by decide) ?_
      refine w_calli F hP hS (k_run l D Y ad N hI hN _ hL 9 0) (cwVm 2 F.2.2.2.2.1 (fun _ h => h) mw_465 mw_718 mw_463 mw_464 mw_2 rfl rfl ydX7_run ⟨by decide, by decide⟩) (by omega) (ls_at hL) rfl rfl hl.1 rfl (Nat.le_of_ble_eq_true rfl) dL_areParts_257 ⟨Nat.zero_le _, Nat.zero_le _⟩ (fun r7 C2 H locs hq hP hS => ?_)
      obtain ⟨hw7, hr7⟩ := hq; rw [hw7] at hP
      have hr7 := hr7.trans (rn_9_0 (by rw [b3, if_neg (by have q := c4; have e := Int32.le_iff_toInt_le.mp q; rw [nI_toInt (by omega)] at e; have t : (10 : Int32).toInt = 10 := rfl; omega)]; decide))
      subst hr7
      refine lv_if_le (tgt := 291) F.1 F.2.1 dL_areParts_260 (by decide) (fun c5 => False.elim (il_0 (b4 9 (by rw [b3, if_neg (by have q := c4; have e := Int32.le_iff_toInt_le.mp q; rw [nI_toInt (by omega)] at e; have t : (10 : Int32).toInt = 10 := rfl; omega)]; decide)).1 c5)) (fun c5 => ?_)
      refine lv_iload F.1 F.2.1 dL_areParts_263 (lv_at hl 0 rfl) ?_
      refine lv_if_eq (tgt := 287) F.1 F.2.1 dL_areParts_265 (by decide) (fun c6 => ?_) (fun c6 => ?_)
      · refine lv_iconst (v := 1) F.1 F.2.1 dL_areParts_287 (by decide) ?_
        refine lv_goto (tgt := 292) F.1 F.2.1 dL_areParts_288 (by decide) ?_
        refine lv_istore (lv' := [(6, .int (1)), (5, .int (nI e1)), (4, .int (T_sum 1 f n)), (3, .int (T_sum 0 f n)), (2, .int (T_least f n)), (1, .int (nI n)), (0, .ref (ad 0))]) F.1 F.2.1 dL_areParts_292 hl (by decide) rfl (fun ls hl => ?_)
        refine lv_iload F.1 F.2.1 dL_areParts_294 (lv_at hl 0 rfl) ?_
        refine lv_if_eq (tgt := 350) F.1 F.2.1 dL_areParts_296 (by decide) (fun c7 => False.elim (by revert c7; decide)) (fun c7 => ?_)
        refine lv_iload_n F.1 F.2.1 dL_areParts_299 rfl (lv_at hl 5 rfl) ?_
        refine lv_bipush (v := 20) F.1 F.2.1 dL_areParts_300 (by decide) ?_
        refine lv_icmp_gt (tgt := 350) F.1 F.2.1 dL_areParts_302 (by decide) (fun c8 => False.elim (nI_nlt (a := 20) hn (by decide) c8)) (fun c8 => ?_)
        refine lv_aload_n F.1 F.2.1 dL_areParts_305 rfl (lv_at hl 6 rfl) ?_
        refine lv_bipush (v := 6) F.1 F.2.1 dL_areParts_306 (by decide) ?_
        refine w_calli F hP hS (k_count l D Y ad N hI hN _ hL 6 (by decide) hok) (cwVm 1 F.2.2.2.2.1 (fun _ h => h) mw_482 mw_716 mw_480 mw_481 mw_2 rfl rfl ydX7_count ⟨by decide, by decide⟩) (by omega) (ls_at hL) rfl rfl hl.1 rfl (Nat.le_of_ble_eq_true rfl) dL_areParts_308 ⟨Nat.zero_le _, Nat.zero_le _⟩ (fun r8 C2 H locs hq hP hS => ?_)
        obtain ⟨hw8, hr8⟩ := hq; rw [hw8] at hP
        have hr8 := hr8.trans (cn_6.trans (by rw [e4n]))
        subst hr8
        refine lv_iload_n F.1 F.2.1 dL_areParts_311 rfl (lv_at hl 4 rfl) ?_
        refine lv_icmp_ne (tgt := 350) F.1 F.2.1 dL_areParts_312 (by decide) (fun c9 => False.elim (c9 rfl)) (fun c9 => ?_)
        refine lv_aload_n F.1 F.2.1 dL_areParts_315 rfl (lv_at hl 6 rfl) ?_
        refine lv_bipush (v := 7) F.1 F.2.1 dL_areParts_316 (by decide) ?_
        refine w_calli F hP hS (k_count l D Y ad N hI hN _ hL 7 (by decide) hok) (cwVm 1 F.2.2.2.2.1 (fun _ h => h) mw_482 mw_716 mw_480 mw_481 mw_2 rfl rfl ydX7_count ⟨by decide, by decide⟩) (by omega) (ls_at hL) rfl rfl hl.1 rfl (Nat.le_of_ble_eq_true rfl) dL_areParts_318 ⟨Nat.zero_le _, Nat.zero_le _⟩ (fun r9 C2 H locs hq hP hS => ?_)
        obtain ⟨hw9, hr9⟩ := hq; rw [hw9] at hP
        have hr9 := hr9.trans (cn_7.trans (by rw [e4n]))
        subst hr9
        refine lv_iload_n F.1 F.2.1 dL_areParts_321 rfl (lv_at hl 3 rfl) ?_
        refine lv_icmp_ne (tgt := 350) F.1 F.2.1 dL_areParts_322 (by decide) (fun c10 => False.elim (c10 rfl)) (fun c10 => ?_)
        refine lv_aload_n F.1 F.2.1 dL_areParts_325 rfl (lv_at hl 6 rfl) ?_
        refine lv_bipush (v := 8) F.1 F.2.1 dL_areParts_326 (by decide) ?_
        refine w_calli F hP hS (k_count l D Y ad N hI hN _ hL 8 (by decide) hok) (cwVm 1 F.2.2.2.2.1 (fun _ h => h) mw_482 mw_716 mw_480 mw_481 mw_2 rfl rfl ydX7_count ⟨by decide, by decide⟩) (by omega) (ls_at hL) rfl rfl hl.1 rfl (Nat.le_of_ble_eq_true rfl) dL_areParts_328 ⟨Nat.zero_le _, Nat.zero_le _⟩ (fun r10 C2 H locs hq hP hS => ?_)
        obtain ⟨hw10, hr10⟩ := hq; rw [hw10] at hP
        have hr10 := hr10.trans (cn_8.trans (by rw [e4n]))
        subst hr10
        refine lv_iload F.1 F.2.1 dL_areParts_331 (lv_at hl 2 rfl) ?_
        refine lv_icmp_ne (tgt := 350) F.1 F.2.1 dL_areParts_333 (by decide) (fun c11 => False.elim (c11 rfl)) (fun c11 => ?_)
        refine lv_aload_n F.1 F.2.1 dL_areParts_336 rfl (lv_at hl 6 rfl) ?_
        refine lv_iload_n F.1 F.2.1 dL_areParts_337 rfl (lv_at hl 5 rfl) ?_
        refine lv_iconst (v := 0) F.1 F.2.1 dL_areParts_338 (by decide) ?_
        refine w_calli F hP hS (k_of l D Y ad N hI hN _ hL (nI n) 0) (cwVm 2 F.2.2.2.2.1 (fun _ h => h) mw_445 mw_717 mw_443 mw_444 mw_2 rfl rfl ydX7_of ⟨by decide, by decide⟩) (by omega) (ls_at hL) rfl rfl hl.1 rfl (Nat.le_of_ble_eq_true rfl) dL_areParts_339 ⟨Nat.zero_le _, Nat.zero_le _⟩ (fun r11 C2 H locs hq hP hS => ?_)
        obtain ⟨hw11, hr11⟩ := hq; rw [hw11] at hP
        have hr11 := hr11.trans (of_no h4 hn)
        subst hr11
        refine lv_iconst (v := (-1)) F.1 F.2.1 dL_areParts_342 (by decide) ?_
        refine lv_icmp_ne (tgt := 350) F.1 F.2.1 dL_areParts_343 (by decide) (fun c12 => False.elim (by revert c12; decide)) (fun c12 => ?_)
        refine lv_iconst (v := 1) F.1 F.2.1 dL_areParts_346 (by decide) ?_
        refine lv_goto (tgt := 351) F.1 F.2.1 dL_areParts_347 (by decide) ?_
        exact w_zret F hr hlocks hP hS (Or.inr rfl) dL_areParts_351 ⟨rfl, rfl⟩
      · have pos20 : (0 : Int) < (f 20).toInt := by have q : ¬ e1 = 0 := fun z => c6 (by rw [z]; rfl); rw [b3]; split <;> omega
        refine lv_aload_n F.1 F.2.1 dL_areParts_268 rfl (lv_at hl 5 rfl) ?_
        refine lv_iconst (v := 0) F.1 F.2.1 dL_areParts_269 (by decide) ?_
        refine lv_iconst (v := 1) F.1 F.2.1 dL_areParts_270 (by decide) ?_
        refine w_calli F hP hS (k_run l D Y ad N hI hN _ hL 0 1) (cwVm 2 F.2.2.2.2.1 (fun _ h => h) mw_465 mw_718 mw_463 mw_464 mw_2 rfl rfl ydX7_run ⟨by decide, by decide⟩) (by omega) (ls_at hL) rfl rfl hl.1 rfl (Nat.le_of_ble_eq_true rfl) dL_areParts_271 ⟨Nat.zero_le _, Nat.zero_le _⟩ (fun r8 C2 H locs hq hP hS => ?_)
        obtain ⟨hw8, hr8⟩ := hq; rw [hw8] at hP
        have hr8 := hr8.trans (rn_0_1 pos20)
        subst hr8
        refine lv_if_le (tgt := 291) F.1 F.2.1 dL_areParts_274 (by decide) (fun c13 => False.elim (il_0 (b4 0 pos20).2.1 c13)) (fun c13 => ?_)
        refine lv_aload_n F.1 F.2.1 dL_areParts_277 rfl (lv_at hl 5 rfl) ?_
        refine lv_iconst (v := 0) F.1 F.2.1 dL_areParts_278 (by decide) ?_
        refine lv_iconst (v := 1) F.1 F.2.1 dL_areParts_279 (by decide) ?_
        refine w_calli F hP hS (k_run l D Y ad N hI hN _ hL 0 1) (cwVm 2 F.2.2.2.2.1 (fun _ h => h) mw_465 mw_718 mw_463 mw_464 mw_2 rfl rfl ydX7_run ⟨by decide, by decide⟩) (by omega) (ls_at hL) rfl rfl hl.1 rfl (Nat.le_of_ble_eq_true rfl) dL_areParts_280 ⟨Nat.zero_le _, Nat.zero_le _⟩ (fun r9 C2 H locs hq hP hS => ?_)
        obtain ⟨hw9, hr9⟩ := hq; rw [hw9] at hP
        have hr9 := hr9.trans (rn_0_1 pos20)
        subst hr9
        refine lv_iconst (v := 5) F.1 F.2.1 dL_areParts_283 (by decide) ?_
        refine lv_icmp_ge (tgt := 291) F.1 F.2.1 dL_areParts_284 (by decide) (fun c14 => False.elim (i_leF (show (f 22).toInt < (5 : Int32).toInt by have z := (b4 0 pos20).2.2; have e : (5 : Int32).toInt = 5 := rfl; have z2 : (f 22).toInt ≤ 4 := z; omega) c14)) (fun c14 => ?_)
        refine lv_iconst (v := 1) F.1 F.2.1 dL_areParts_287 (by decide) ?_
        refine lv_goto (tgt := 292) F.1 F.2.1 dL_areParts_288 (by decide) ?_
        refine lv_istore (lv' := [(6, .int (1)), (5, .int (nI e1)), (4, .int (T_sum 1 f n)), (3, .int (T_sum 0 f n)), (2, .int (T_least f n)), (1, .int (nI n)), (0, .ref (ad 0))]) F.1 F.2.1 dL_areParts_292 hl (by decide) rfl (fun ls hl => ?_)
        refine lv_iload F.1 F.2.1 dL_areParts_294 (lv_at hl 0 rfl) ?_
        refine lv_if_eq (tgt := 350) F.1 F.2.1 dL_areParts_296 (by decide) (fun c15 => False.elim (by revert c15; decide)) (fun c15 => ?_)
        refine lv_iload_n F.1 F.2.1 dL_areParts_299 rfl (lv_at hl 5 rfl) ?_
        refine lv_bipush (v := 20) F.1 F.2.1 dL_areParts_300 (by decide) ?_
        refine lv_icmp_gt (tgt := 350) F.1 F.2.1 dL_areParts_302 (by decide) (fun c16 => False.elim (nI_nlt (a := 20) hn (by decide) c16)) (fun c16 => ?_)
        refine lv_aload_n F.1 F.2.1 dL_areParts_305 rfl (lv_at hl 6 rfl) ?_
        refine lv_bipush (v := 6) F.1 F.2.1 dL_areParts_306 (by decide) ?_
        refine w_calli F hP hS (k_count l D Y ad N hI hN _ hL 6 (by decide) hok) (cwVm 1 F.2.2.2.2.1 (fun _ h => h) mw_482 mw_716 mw_480 mw_481 mw_2 rfl rfl ydX7_count ⟨by decide, by decide⟩) (by omega) (ls_at hL) rfl rfl hl.1 rfl (Nat.le_of_ble_eq_true rfl) dL_areParts_308 ⟨Nat.zero_le _, Nat.zero_le _⟩ (fun r10 C2 H locs hq hP hS => ?_)
        obtain ⟨hw10, hr10⟩ := hq; rw [hw10] at hP
        have hr10 := hr10.trans (cn_6.trans (by rw [e4n]))
        subst hr10
        refine lv_iload_n F.1 F.2.1 dL_areParts_311 rfl (lv_at hl 4 rfl) ?_
        refine lv_icmp_ne (tgt := 350) F.1 F.2.1 dL_areParts_312 (by decide) (fun c17 => False.elim (c17 rfl)) (fun c17 => ?_)
        refine lv_aload_n F.1 F.2.1 dL_areParts_315 rfl (lv_at hl 6 rfl) ?_
        refine lv_bipush (v := 7) F.1 F.2.1 dL_areParts_316 (by decide) ?_
        refine w_calli F hP hS (k_count l D Y ad N hI hN _ hL 7 (by decide) hok) (cwVm 1 F.2.2.2.2.1 (fun _ h => h) mw_482 mw_716 mw_480 mw_481 mw_2 rfl rfl ydX7_count ⟨by decide, by decide⟩) (by omega) (ls_at hL) rfl rfl hl.1 rfl (Nat.le_of_ble_eq_true rfl) dL_areParts_318 ⟨Nat.zero_le _, Nat.zero_le _⟩ (fun r11 C2 H locs hq hP hS => ?_)
        obtain ⟨hw11, hr11⟩ := hq; rw [hw11] at hP
        have hr11 := hr11.trans (cn_7.trans (by rw [e4n]))
        subst hr11
        refine lv_iload_n F.1 F.2.1 dL_areParts_321 rfl (lv_at hl 3 rfl) ?_
        refine lv_icmp_ne (tgt := 350) F.1 F.2.1 dL_areParts_322 (by decide) (fun c18 => False.elim (c18 rfl)) (fun c18 => ?_)
        refine lv_aload_n F.1 F.2.1 dL_areParts_325 rfl (lv_at hl 6 rfl) ?_
        refine lv_bipush (v := 8) F.1 F.2.1 dL_areParts_326 (by decide) ?_
        refine w_calli F hP hS (k_count l D Y ad N hI hN _ hL 8 (by decide) hok) (cwVm 1 F.2.2.2.2.1 (fun _ h => h) mw_482 mw_716 mw_480 mw_481 mw_2 rfl rfl ydX7_count ⟨by decide, by decide⟩) (by omega) (ls_at hL) rfl rfl hl.1 rfl (Nat.le_of_ble_eq_true rfl) dL_areParts_328 ⟨Nat.zero_le _, Nat.zero_le _⟩ (fun r12 C2 H locs hq hP hS => ?_)
        obtain ⟨hw12, hr12⟩ := hq; rw [hw12] at hP
        have hr12 := hr12.trans (cn_8.trans (by rw [e4n]))
        subst hr12
        refine lv_iload F.1 F.2.1 dL_areParts_331 (lv_at hl 2 rfl) ?_
        refine lv_icmp_ne (tgt := 350) F.1 F.2.1 dL_areParts_333 (by decide) (fun c19 => False.elim (c19 rfl)) (fun c19 => ?_)
        refine lv_aload_n F.1 F.2.1 dL_areParts_336 rfl (lv_at hl 6 rfl) ?_
        refine lv_iload_n F.1 F.2.1 dL_areParts_337 rfl (lv_at hl 5 rfl) ?_
        refine lv_iconst (v := 0) F.1 F.2.1 dL_areParts_338 (by decide) ?_
        refine w_calli F hP hS (k_of l D Y ad N hI hN _ hL (nI n) 0) (cwVm 2 F.2.2.2.2.1 (fun _ h => h) mw_445 mw_717 mw_443 mw_444 mw_2 rfl rfl ydX7_of ⟨by decide, by decide⟩) (by omega) (ls_at hL) rfl rfl hl.1 rfl (Nat.le_of_ble_eq_true rfl) dL_areParts_339 ⟨Nat.zero_le _, Nat.zero_le _⟩ (fun r13 C2 H locs hq hP hS => ?_)
        obtain ⟨hw13, hr13⟩ := hq; rw [hw13] at hP
        have hr13 := hr13.trans (of_no h4 hn)
        subst hr13
        refine lv_iconst (v := (-1)) F.1 F.2.1 dL_areParts_342 (by decide) ?_
        refine lv_icmp_ne (tgt := 350) F.1 F.2.1 dL_areParts_343 (by decide) (fun c20 => False.elim (by revert c20; decide)) (fun c20 => ?_)
        refine lv_iconst (v := 1) F.1 F.2.1 dL_areParts_346 (by decide) ?_
        refine lv_goto (tgt := 351) F.1 F.2.1 dL_areParts_347 (by decide) ?_
        exact w_zret F hr hlocks hP hS (Or.inr rfl) dL_areParts_351 ⟨rfl, rfl⟩
    · refine lv_aload_n F.1 F.2.1 dL_areParts_239 rfl (lv_at hl 5 rfl) ?_
      refine lv_iload F.1 F.2.1 dL_areParts_240 (lv_at hl 0 rfl) ?_
      refine lv_iconst (v := 0) F.1 F.2.1 dL_areParts_242 (by decide) ?_
      refine w_calli F hP hS (k_run l D Y ad N hI hN _ hL (nI e1) 0) (cwVm 2 F.2.2.2.2.1 (fun _ h => h) mw_465 mw_718 mw_463 mw_464 mw_2 rfl rfl ydX7_run ⟨by decide, by decide⟩) (by omega) (ls_at hL) rfl rfl hl.1 rfl (Nat.le_of_ble_eq_true rfl) dL_areParts_243 ⟨Nat.zero_le _, Nat.zero_le _⟩ (fun r7 C2 H locs hq hP hS => ?_)
      obtain ⟨hw7, hr7⟩ := hq; rw [hw7] at hP
      have hr7 := hr7.trans (rn_no (by rw [b3, nI_toInt (by omega)]; split <;> omega))
      subst hr7
      refine lv_iconst (v := (-1)) F.1 F.2.1 dL_areParts_246 (by decide) ?_
      refine lv_icmp_ne (tgt := 291) F.1 F.2.1 dL_areParts_247 (by decide) (fun c21 => False.elim (by revert c21; decide)) (fun c21 => ?_)
      refine lv_goto (tgt := 263) F.1 F.2.1 dL_areParts_250 (by decide) ?_
      refine lv_iload F.1 F.2.1 dL_areParts_263 (lv_at hl 0 rfl) ?_
      refine lv_if_eq (tgt := 287) F.1 F.2.1 dL_areParts_265 (by decide) (fun c22 => ?_) (fun c22 => ?_)
      · refine lv_iconst (v := 1) F.1 F.2.1 dL_areParts_287 (by decide) ?_
        refine lv_goto (tgt := 292) F.1 F.2.1 dL_areParts_288 (by decide) ?_
        refine lv_istore (lv' := [(6, .int (1)), (5, .int (nI e1)), (4, .int (T_sum 1 f n)), (3, .int (T_sum 0 f n)), (2, .int (T_least f n)), (1, .int (nI n)), (0, .ref (ad 0))]) F.1 F.2.1 dL_areParts_292 hl (by decide) rfl (fun ls hl => ?_)
        refine lv_iload F.1 F.2.1 dL_areParts_294 (lv_at hl 0 rfl) ?_
        refine lv_if_eq (tgt := 350) F.1 F.2.1 dL_areParts_296 (by decide) (fun c23 => False.elim (by revert c23; decide)) (fun c23 => ?_)
        refine lv_iload_n F.1 F.2.1 dL_areParts_299 rfl (lv_at hl 5 rfl) ?_
        refine lv_bipush (v := 20) F.1 F.2.1 dL_areParts_300 (by decide) ?_
        refine lv_icmp_gt (tgt := 350) F.1 F.2.1 dL_areParts_302 (by decide) (fun c24 => False.elim (nI_nlt (a := 20) hn (by decide) c24)) (fun c24 => ?_)
        refine lv_aload_n F.1 F.2.1 dL_areParts_305 rfl (lv_at hl 6 rfl) ?_
        refine lv_bipush (v := 6) F.1 F.2.1 dL_areParts_306 (by decide) ?_
        refine w_calli F hP hS (k_count l D Y ad N hI hN _ hL 6 (by decide) hok) (cwVm 1 F.2.2.2.2.1 (fun _ h => h) mw_482 mw_716 mw_480 mw_481 mw_2 rfl rfl ydX7_count ⟨by decide, by decide⟩) (by omega) (ls_at hL) rfl rfl hl.1 rfl (Nat.le_of_ble_eq_true rfl) dL_areParts_308 ⟨Nat.zero_le _, Nat.zero_le _⟩ (fun r8 C2 H locs hq hP hS => ?_)
        obtain ⟨hw8, hr8⟩ := hq; rw [hw8] at hP
        have hr8 := hr8.trans (cn_6.trans (by rw [e4n]))
        subst hr8
        refine lv_iload_n F.1 F.2.1 dL_areParts_311 rfl (lv_at hl 4 rfl) ?_
        refine lv_icmp_ne (tgt := 350) F.1 F.2.1 dL_areParts_312 (by decide) (fun c25 => False.elim (c25 rfl)) (fun c25 => ?_)
        refine lv_aload_n F.1 F.2.1 dL_areParts_315 rfl (lv_at hl 6 rfl) ?_
        refine lv_bipush (v := 7) F.1 F.2.1 dL_areParts_316 (by decide) ?_
        refine w_calli F hP hS (k_count l D Y ad N hI hN _ hL 7 (by decide) hok) (cwVm 1 F.2.2.2.2.1 (fun _ h => h) mw_482 mw_716 mw_480 mw_481 mw_2 rfl rfl ydX7_count ⟨by decide, by decide⟩) (by omega) (ls_at hL) rfl rfl hl.1 rfl (Nat.le_of_ble_eq_true rfl) dL_areParts_318 ⟨Nat.zero_le _, Nat.zero_le _⟩ (fun r9 C2 H locs hq hP hS => ?_)
        obtain ⟨hw9, hr9⟩ := hq; rw [hw9] at hP
        have hr9 := hr9.trans (cn_7.trans (by rw [e4n]))
        subst hr9
        refine lv_iload_n F.1 F.2.1 dL_areParts_321 rfl (lv_at hl 3 rfl) ?_
        refine lv_icmp_ne (tgt := 350) F.1 F.2.1 dL_areParts_322 (by decide) (fun c26 => False.elim (c26 rfl)) (fun c26 => ?_)
        refine lv_aload_n F.1 F.2.1 dL_areParts_325 rfl (lv_at hl 6 rfl) ?_
        refine lv_bipush (v := 8) F.1 F.2.1 dL_areParts_326 (by decide) ?_
        refine w_calli F hP hS (k_count l D Y ad N hI hN _ hL 8 (by decide) hok) (cwVm 1 F.2.2.2.2.1 (fun _ h => h) mw_482 mw_716 mw_480 mw_481 mw_2 rfl rfl ydX7_count ⟨by decide, by decide⟩) (by omega) (ls_at hL) rfl rfl hl.1 rfl (Nat.le_of_ble_eq_true rfl) dL_areParts_328 ⟨Nat.zero_le _, Nat.zero_le _⟩ (fun r10 C2 H locs hq hP hS => ?_)
        obtain ⟨hw10, hr10⟩ := hq; rw [hw10] at hP
        have hr10 := hr10.trans (cn_8.trans (by rw [e4n]))
        subst hr10
        refine lv_iload F.1 F.2.1 dL_areParts_331 (lv_at hl 2 rfl) ?_
        refine lv_icmp_ne (tgt := 350) F.1 F.2.1 dL_areParts_333 (by decide) (fun c27 => False.elim (c27 rfl)) (fun c27 => ?_)
        refine lv_aload_n F.1 F.2.1 dL_areParts_336 rfl (lv_at hl 6 rfl) ?_
        refine lv_iload_n F.1 F.2.1 dL_areParts_337 rfl (lv_at hl 5 rfl) ?_
        refine lv_iconst (v := 0) F.1 F.2.1 dL_areParts_338 (by decide) ?_
        refine w_calli F hP hS (k_of l D Y ad N hI hN _ hL (nI n) 0) (cwVm 2 F.2.2.2.2.1 (fun _ h => h) mw_445 mw_717 mw_443 mw_444 mw_2 rfl rfl ydX7_of ⟨by decide, by decide⟩) (by omega) (ls_at hL) rfl rfl hl.1 rfl (Nat.le_of_ble_eq_true rfl) dL_areParts_339 ⟨Nat.zero_le _, Nat.zero_le _⟩ (fun r11 C2 H locs hq hP hS => ?_)
        obtain ⟨hw11, hr11⟩ := hq; rw [hw11] at hP
        have hr11 := hr11.trans (of_no h4 hn)
        subst hr11
        refine lv_iconst (v := (-1)) F.1 F.2.1 dL_areParts_342 (by decide) ?_
        refine lv_icmp_ne (tgt := 350) F.1 F.2.1 dL_areParts_343 (by decide) (fun c28 => False.elim (by revert c28; decide)) (fun c28 => ?_)
        refine lv_iconst (v := 1) F.1 F.2.1 dL_areParts_346 (by decide) ?_
        refine lv_goto (tgt := 351) F.1 F.2.1 dL_areParts_347 (by decide) ?_
        exact w_zret F hr hlocks hP hS (Or.inr rfl) dL_areParts_351 ⟨rfl, rfl⟩
      · have pos20 : (0 : Int) < (f 20).toInt := by have q : ¬ e1 = 0 := fun z => c22 (by rw [z]; rfl); rw [b3]; split <;> omega
        refine lv_aload_n F.1 F.2.1 dL_areParts_268 rfl (lv_at hl 5 rfl) ?_
        refine lv_iconst (v := 0) F.1 F.2.1 dL_areParts_269 (by decide) ?_
        refine lv_iconst (v := 1) F.1 F.2.1 dL_areParts_270 (by decide) ?_
        refine w_calli F hP hS (k_run l D Y ad N hI hN _ hL 0 1) (cwVm 2 F.2.2.2.2.1 (fun _ h => h) mw_465 mw_718 mw_463 mw_464 mw_2 rfl rfl ydX7_run ⟨by decide, by decide⟩) (by omega) (ls_at hL) rfl rfl hl.1 rfl (Nat.le_of_ble_eq_true rfl) dL_areParts_271 ⟨Nat.zero_le _, Nat.zero_le _⟩ (fun r8 C2 H locs hq hP hS => ?_)
        obtain ⟨hw8, hr8⟩ := hq; rw [hw8] at hP
        have hr8 := hr8.trans (rn_0_1 pos20)
        subst hr8
        refine lv_if_le (tgt := 291) F.1 F.2.1 dL_areParts_274 (by decide) (fun c29 => False.elim (il_0 (b4 0 pos20).2.1 c29)) (fun c29 => ?_)
        refine lv_aload_n F.1 F.2.1 dL_areParts_277 rfl (lv_at hl 5 rfl) ?_
        refine lv_iconst (v := 0) F.1 F.2.1 dL_areParts_278 (by decide) ?_
        refine lv_iconst (v := 1) F.1 F.2.1 dL_areParts_279 (by decide) ?_
        refine w_calli F hP hS (k_run l D Y ad N hI hN _ hL 0 1) (cwVm 2 F.2.2.2.2.1 (fun _ h => h) mw_465 mw_718 mw_463 mw_464 mw_2 rfl rfl ydX7_run ⟨by decide, by decide⟩) (by omega) (ls_at hL) rfl rfl hl.1 rfl (Nat.le_of_ble_eq_true rfl) dL_areParts_280 ⟨Nat.zero_le _, Nat.zero_le _⟩ (fun r9 C2 H locs hq hP hS => ?_)
        obtain ⟨hw9, hr9⟩ := hq; rw [hw9] at hP
        have hr9 := hr9.trans (rn_0_1 pos20)
        subst hr9
        refine lv_iconst (v := 5) F.1 F.2.1 dL_areParts_283 (by decide) ?_
        refine lv_icmp_ge (tgt := 291) F.1 F.2.1 dL_areParts_284 (by decide) (fun c30 => False.elim (i_leF (show (f 22).toInt < (5 : Int32).toInt by have z := (b4 0 pos20).2.2; have e : (5 : Int32).toInt = 5 := rfl; have z2 : (f 22).toInt ≤ 4 := z; omega) c30)) (fun c30 => ?_)
        refine lv_iconst (v := 1) F.1 F.2.1 dL_areParts_287 (by decide) ?_
        refine lv_goto (tgt := 292) F.1 F.2.1 dL_areParts_288 (by decide) ?_
        refine lv_istore (lv' := [(6, .int (1)), (5, .int (nI e1)), (4, .int (T_sum 1 f n)), (3, .int (T_sum 0 f n)), (2, .int (T_least f n)), (1, .int (nI n)), (0, .ref (ad 0))]) F.1 F.2.1 dL_areParts_292 hl (by decide) rfl (fun ls hl => ?_)
        refine lv_iload F.1 F.2.1 dL_areParts_294 (lv_at hl 0 rfl) ?_
        refine lv_if_eq (tgt := 350) F.1 F.2.1 dL_areParts_296 (by decide) (fun c31 => False.elim (by revert c31; decide)) (fun c31 => ?_)
        refine lv_iload_n F.1 F.2.1 dL_areParts_299 rfl (lv_at hl 5 rfl) ?_
        refine lv_bipush (v := 20) F.1 F.2.1 dL_areParts_300 (by decide) ?_
        refine lv_icmp_gt (tgt := 350) F.1 F.2.1 dL_areParts_302 (by decide) (fun c32 => False.elim (nI_nlt (a := 20) hn (by decide) c32)) (fun c32 => ?_)
        refine lv_aload_n F.1 F.2.1 dL_areParts_305 rfl (lv_at hl 6 rfl) ?_
        refine lv_bipush (v := 6) F.1 F.2.1 dL_areParts_306 (by decide) ?_
        refine w_calli F hP hS (k_count l D Y ad N hI hN _ hL 6 (by decide) hok) (cwVm 1 F.2.2.2.2.1 (fun _ h => h) mw_482 mw_716 mw_480 mw_481 mw_2 rfl rfl ydX7_count ⟨by decide, by decide⟩) (by omega) (ls_at hL) rfl rfl hl.1 rfl (Nat.le_of_ble_eq_true rfl) dL_areParts_308 ⟨Nat.zero_le _, Nat.zero_le _⟩ (fun r10 C2 H locs hq hP hS => ?_)
        obtain ⟨hw10, hr10⟩ := hq; rw [hw10] at hP
        have hr10 := hr10.trans (cn_6.trans (by rw [e4n]))
        subst hr10
        refine lv_iload_n F.1 F.2.1 dL_areParts_311 rfl (lv_at hl 4 rfl) ?_
        refine lv_icmp_ne (tgt := 350) F.1 F.2.1 dL_areParts_312 (by decide) (fun c33 => False.elim (c33 rfl)) (fun c33 => ?_)
        refine lv_aload_n F.1 F.2.1 dL_areParts_315 rfl (lv_at hl 6 rfl) ?_
        refine lv_bipush (v := 7) F.1 F.2.1 dL_areParts_316 (by decide) ?_
        refine w_calli F hP hS (k_count l D Y ad N hI hN _ hL 7 (by decide) hok) (cwVm 1 F.2.2.2.2.1 (fun _ h => h) mw_482 mw_716 mw_480 mw_481 mw_2 rfl rfl ydX7_count ⟨by decide, by decide⟩) (by omega) (ls_at hL) rfl rfl hl.1 rfl (Nat.le_of_ble_eq_true rfl) dL_areParts_318 ⟨Nat.zero_le _, Nat.zero_le _⟩ (fun r11 C2 H locs hq hP hS => ?_)
        obtain ⟨hw11, hr11⟩ := hq; rw [hw11] at hP
        have hr11 := hr11.trans (cn_7.trans (by rw [e4n]))
        subst hr11
        refine lv_iload_n F.1 F.2.1 dL_areParts_321 rfl (lv_at hl 3 rfl) ?_
        refine lv_icmp_ne (tgt := 350) F.1 F.2.1 dL_areParts_322 (by decide) (fun c34 => False.elim (c34 rfl)) (fun c34 => ?_)
        refine lv_aload_n F.1 F.2.1 dL_areParts_325 rfl (lv_at hl 6 rfl) ?_
        refine lv_bipush (v := 8) F.1 F.2.1 dL_areParts_326 (by decide) ?_
        refine w_calli F hP hS (k_count l D Y ad N hI hN _ hL 8 (by decide) hok) (cwVm 1 F.2.2.2.2.1 (fun _ h => h) mw_482 mw_716 mw_480 mw_481 mw_2 rfl rfl ydX7_count ⟨by decide, by decide⟩) (by omega) (ls_at hL) rfl rfl hl.1 rfl (Nat.le_of_ble_eq_true rfl) dL_areParts_328 ⟨Nat.zero_le _, Nat.zero_le _⟩ (fun r12 C2 H locs hq hP hS => ?_)
        obtain ⟨hw12, hr12⟩ := hq; rw [hw12] at hP
        have hr12 := hr12.trans (cn_8.trans (by rw [e4n]))
        subst hr12
        refine lv_iload F.1 F.2.1 dL_areParts_331 (lv_at hl 2 rfl) ?_
        refine lv_icmp_ne (tgt := 350) F.1 F.2.1 dL_areParts_333 (by decide) (fun c35 => False.elim (c35 rfl)) (fun c35 => ?_)
        refine lv_aload_n F.1 F.2.1 dL_areParts_336 rfl (lv_at hl 6 rfl) ?_
        refine lv_iload_n F.1 F.2.1 dL_areParts_337 rfl (lv_at hl 5 rfl) ?_
        refine lv_iconst (v := 0) F.1 F.2.1 dL_areParts_338 (by decide) ?_
        refine w_calli F hP hS (k_of l D Y ad N hI hN _ hL (nI n) 0) (cwVm 2 F.2.2.2.2.1 (fun _ h => h) mw_445 mw_717 mw_443 mw_444 mw_2 rfl rfl ydX7_of ⟨by decide, by decide⟩) (by omega) (ls_at hL) rfl rfl hl.1 rfl (Nat.le_of_ble_eq_true rfl) dL_areParts_339 ⟨Nat.zero_le _, Nat.zero_le _⟩ (fun r13 C2 H locs hq hP hS => ?_)
        obtain ⟨hw13, hr13⟩ := hq; rw [hw13] at hP
        have hr13 := hr13.trans (of_no h4 hn)
        subst hr13
        refine lv_iconst (v := (-1)) F.1 F.2.1 dL_areParts_342 (by decide) ?_
        refine lv_icmp_ne (tgt := 350) F.1 F.2.1 dL_areParts_343 (by decide) (fun c36 => False.elim (by revert c36; decide)) (fun c36 => ?_)
        refine lv_iconst (v := 1) F.1 F.2.1 dL_areParts_346 (by decide) ?_
        refine lv_goto (tgt := 351) F.1 F.2.1 dL_areParts_347 (by decide) ?_
        exact w_zret F hr hlocks hP hS (Or.inr rfl) dL_areParts_351 ⟨rfl, rfl⟩
  · have hkn : k < n := Nat.not_le.mp (fun q => c1 (nI_le q (by omega)))
    refine lv_iload F.1 F.2.1 dL_areParts_22 (lv_at hl 0 rfl) ?_
    refine lv_bipush (v := 20) F.1 F.2.1 dL_areParts_24 (by decide) ?_
    refine lv_icmp_ge (tgt := 197) F.1 F.2.1 dL_areParts_26 (by decide) (fun c37 => False.elim (nI_ge (b := 20) (by omega) (by decide) c37)) (fun c37 => ?_)
    obtain ⟨o1, o2, o3, o4, o5⟩ := hJ.2.1 k (by rw [e4n]; exact hkn)
    rcases o1 with ko | ko | ko
    · have z3 : f (64 + 5 * k) = 0 := o3.resolve_right (by rw [ko]; decide)
      have z4 : f (65 + 5 * k) = 0 := o4.resolve_right (by rw [ko]; decide)
      have hv9 : (valAt f k).toInt ≤ 9 := by have q := o2.2; rw [if_neg (by rw [ko]; decide)] at q; exact q
      refine lv_aload_n F.1 F.2.1 dL_areParts_29 rfl (lv_at hl 5 rfl) ?_
      refine lv_iload F.1 F.2.1 dL_areParts_30 (lv_at hl 0 rfl) ?_
      refine lv_iconst (v := 0) F.1 F.2.1 dL_areParts_32 (by decide) ?_
      refine w_calli F hP hS (k_of l D Y ad N hI hN _ hL (nI k) 0) (cwVm 2 F.2.2.2.2.1 (fun _ h => h) mw_445 mw_717 mw_443 mw_444 mw_2 rfl rfl ydX7_of ⟨by decide, by decide⟩) (by omega) (ls_at hL) rfl rfl hl.1 rfl (Nat.le_of_ble_eq_true rfl) dL_areParts_33 ⟨Nat.zero_le _, Nat.zero_le _⟩ (fun r2 C2 H locs hq hP hS => ?_)
      obtain ⟨hw2, hr2⟩ := hq; rw [hw2] at hP
      have hr2 := hr2.trans ((of_0 h4 hkn hn).trans ko)
      subst hr2
      refine lv_istore (lv' := [(6, .int (0)), (5, .int (nI k)), (4, .int (T_sum 1 f k)), (3, .int (T_sum 0 f k)), (2, .int (T_least f k)), (1, .int (nI n)), (0, .ref (ad 0))]) F.1 F.2.1 dL_areParts_36 hl (by decide) rfl (fun ls hl => ?_)
      refine lv_aload_n F.1 F.2.1 dL_areParts_38 rfl (lv_at hl 6 rfl) ?_
      refine lv_iload F.1 F.2.1 dL_areParts_39 (lv_at hl 1 rfl) ?_
      refine lv_iconst (v := 1) F.1 F.2.1 dL_areParts_41 (by decide) ?_
      refine w_calli F hP hS (k_of l D Y ad N hI hN _ hL (nI k) 1) (cwVm 2 F.2.2.2.2.1 (fun _ h => h) mw_445 mw_717 mw_443 mw_444 mw_2 rfl rfl ydX7_of ⟨by decide, by decide⟩) (by omega) (ls_at hL) rfl rfl hl.1 rfl (Nat.le_of_ble_eq_true rfl) dL_areParts_42 ⟨Nat.zero_le _, Nat.zero_le _⟩ (fun r3 C2 H locs hq hP hS => ?_)
      obtain ⟨hw3, hr3⟩ := hq; rw [hw3] at hP
      have hr3 := hr3.trans (of_1 h4 hkn hn)
      subst hr3
      refine lv_istore (lv' := [(7, .int (valAt f k)), (6, .int (0)), (5, .int (nI k)), (4, .int (T_sum 1 f k)), (3, .int (T_sum 0 f k)), (2, .int (T_least f k)), (1, .int (nI n)), (0, .ref (ad 0))]) F.1 F.2.1 dL_areParts_45 hl (by decide) rfl (fun ls hl => ?_)
      refine lv_iload F.1 F.2.1 dL_areParts_47 (lv_at hl 1 rfl) ?_
      refine lv_if_lt (tgt := 127) F.1 F.2.1 dL_areParts_49 (by decide) (fun c38 => False.elim (by revert c38; decide)) (fun c38 => ?_)
      refine lv_iload F.1 F.2.1 dL_areParts_52 (lv_at hl 1 rfl) ?_
      refine lv_iconst (v := 3) F.1 F.2.1 dL_areParts_54 (by decide) ?_
      refine lv_icmp_ge (tgt := 127) F.1 F.2.1 dL_areParts_55 (by decide) (fun c39 => False.elim (by revert c39; decide)) (fun c39 => ?_)
      refine lv_iload F.1 F.2.1 dL_areParts_58 (lv_at hl 0 rfl) ?_
      refine lv_if_le (tgt := 127) F.1 F.2.1 dL_areParts_60 (by decide) (fun c40 => False.elim (il_0 o2.1 c40)) (fun c40 => ?_)
      refine lv_iload F.1 F.2.1 dL_areParts_63 (lv_at hl 0 rfl) ?_
      refine lv_iload F.1 F.2.1 dL_areParts_65 (lv_at hl 1 rfl) ?_
      refine lv_iconst (v := 2) F.1 F.2.1 dL_areParts_67 (by decide) ?_
      refine lv_icmp_ne (tgt := 76) F.1 F.2.1 dL_areParts_68 (by decide) (fun c41 => ?_) (fun c41 => False.elim (by revert c41; decide))
      refine lv_bipush (v := 10) F.1 F.2.1 dL_areParts_76 (by decide) ?_
      refine lv_icmp_ge (tgt := 127) F.1 F.2.1 dL_areParts_78 (by decide) (fun c42 => False.elim (i_leF (show (valAt f k).toInt < (10 : Int32).toInt by have e : (10 : Int32).toInt = 10 := rfl; omega) c42)) (fun c42 => ?_)
      refine lv_aload_n F.1 F.2.1 dL_areParts_81 rfl (lv_at hl 7 rfl) ?_
      refine lv_iload F.1 F.2.1 dL_areParts_82 (lv_at hl 2 rfl) ?_
      refine lv_iconst (v := 3) F.1 F.2.1 dL_areParts_84 (by decide) ?_
      refine w_calli F hP hS (k_of l D Y ad N hI hN _ hL (nI k) 3) (cwVm 2 F.2.2.2.2.1 (fun _ h => h) mw_445 mw_717 mw_443 mw_444 mw_2 rfl rfl ydX7_of ⟨by decide, by decide⟩) (by omega) (ls_at hL) rfl rfl hl.1 rfl (Nat.le_of_ble_eq_true rfl) dL_areParts_85 ⟨Nat.zero_le _, Nat.zero_le _⟩ (fun r4 C2 H locs hq hP hS => ?_)
      obtain ⟨hw4, hr4⟩ := hq; rw [hw4] at hP
      have hr4 := hr4.trans ((of_3 h4 hkn hn).trans z3)
      subst hr4
      refine lv_if_eq (tgt := 97) F.1 F.2.1 dL_areParts_88 (by decide) (fun c43 => ?_) (fun c43 => False.elim (by revert c43; decide))
      refine lv_aload_n F.1 F.2.1 dL_areParts_97 rfl (lv_at hl 7 rfl) ?_
      refine lv_iload F.1 F.2.1 dL_areParts_98 (lv_at hl 2 rfl) ?_
      refine lv_iconst (v := 4) F.1 F.2.1 dL_areParts_100 (by decide) ?_
      refine w_calli F hP hS (k_of l D Y ad N hI hN _ hL (nI k) 4) (cwVm 2 F.2.2.2.2.1 (fun _ h => h) mw_445 mw_717 mw_443 mw_444 mw_2 rfl rfl ydX7_of ⟨by decide, by decide⟩) (by omega) (ls_at hL) rfl rfl hl.1 rfl (Nat.le_of_ble_eq_true rfl) dL_areParts_101 ⟨Nat.zero_le _, Nat.zero_le _⟩ (fun r5 C2 H locs hq hP hS => ?_)
      obtain ⟨hw5, hr5⟩ := hq; rw [hw5] at hP
      have hr5 := hr5.trans ((of_4 h4 hkn hn).trans z4)
      subst hr5
      refine lv_if_eq (tgt := 113) F.1 F.2.1 dL_areParts_104 (by decide) (fun c44 => ?_) (fun c44 => False.elim (by revert c44; decide))
      refine lv_aload_n F.1 F.2.1 dL_areParts_113 rfl (lv_at hl 7 rfl) ?_
      refine lv_iload F.1 F.2.1 dL_areParts_114 (lv_at hl 2 rfl) ?_
      refine lv_iconst (v := 2) F.1 F.2.1 dL_areParts_116 (by decide) ?_
      refine w_calli F hP hS (k_of l D Y ad N hI hN _ hL (nI k) 2) (cwVm 2 F.2.2.2.2.1 (fun _ h => h) mw_445 mw_717 mw_443 mw_444 mw_2 rfl rfl ydX7_of ⟨by decide, by decide⟩) (by omega) (ls_at hL) rfl rfl hl.1 rfl (Nat.le_of_ble_eq_true rfl) dL_areParts_117 ⟨Nat.zero_le _, Nat.zero_le _⟩ (fun r6 C2 H locs hq hP hS => ?_)
      obtain ⟨hw6, hr6⟩ := hq; rw [hw6] at hP
      have hr6 := hr6.trans (of_2 h4 hkn hn)
      subst hr6
      refine lv_if_lt (tgt := 127) F.1 F.2.1 dL_areParts_120 (by decide) (fun c45 => False.elim (il_lt o5.1 c45)) (fun c45 => ?_)
      refine lv_iconst (v := 1) F.1 F.2.1 dL_areParts_123 (by decide) ?_
      refine lv_goto (tgt := 128) F.1 F.2.1 dL_areParts_124 (by decide) ?_
      refine lv_istore (lv' := [(8, .int (1)), (7, .int (valAt f k)), (6, .int (0)), (5, .int (nI k)), (4, .int (T_sum 1 f k)), (3, .int (T_sum 0 f k)), (2, .int (T_least f k)), (1, .int (nI n)), (0, .ref (ad 0))]) F.1 F.2.1 dL_areParts_128 hl (by decide) rfl (fun ls hl => ?_)
      refine lv_iload F.1 F.2.1 dL_areParts_130 (lv_at hl 0 rfl) ?_
      refine lv_if_ne (tgt := 137) F.1 F.2.1 dL_areParts_132 (by decide) (fun c46 => ?_) (fun c46 => False.elim (by revert c46; decide))
      refine lv_iload F.1 F.2.1 dL_areParts_137 (lv_at hl 2 rfl) ?_
      refine lv_iconst (v := 2) F.1 F.2.1 dL_areParts_139 (by decide) ?_
      refine lv_icmp_ne (tgt := 158) F.1 F.2.1 dL_areParts_140 (by decide) (fun c47 => ?_) (fun c47 => False.elim (by revert c47; decide))
      refine lv_iload_n F.1 F.2.1 dL_areParts_158 rfl (lv_at hl 6 rfl) ?_
      refine lv_topi (fun v48 ev48 => ?_)
      have ev48 : v48 = T_least f (k + 1) := ev48.trans (if_neg (fun q => absurd (ko.symm.trans q.1) (by decide))).symm
      subst ev48
      refine lv_istore_n (lv' := [(2, .int (T_least f (k + 1))), (8, .int (1)), (7, .int (valAt f k)), (6, .int (0)), (5, .int (nI k)), (4, .int (T_sum 1 f k)), (3, .int (T_sum 0 f k)), (1, .int (nI n)), (0, .ref (ad 0))]) F.1 F.2.1 dL_areParts_159 rfl hl (by decide) rfl (fun ls hl => ?_)
      refine lv_iload_n F.1 F.2.1 dL_areParts_160 rfl (lv_at hl 6 rfl) ?_
      refine lv_iload F.1 F.2.1 dL_areParts_161 (lv_at hl 3 rfl) ?_
      refine lv_if_ne (tgt := 171) F.1 F.2.1 dL_areParts_163 (by decide) (fun c49 => False.elim (by revert c49; decide)) (fun c49 => ?_)
      refine lv_iload F.1 F.2.1 dL_areParts_166 (lv_at hl 2 rfl) ?_
      refine lv_goto (tgt := 172) F.1 F.2.1 dL_areParts_168 (by decide) ?_
      refine lv_iadd F.1 F.2.1 dL_areParts_172 ?_
      refine lv_topi (fun v50 ev50 => ?_)
      have ev50 : v50 = T_sum 0 f (k + 1) := ev50.trans (if_pos ko).symm
      subst ev50
      refine lv_istore_n (lv' := [(3, .int (T_sum 0 f (k + 1))), (2, .int (T_least f (k + 1))), (8, .int (1)), (7, .int (valAt f k)), (6, .int (0)), (5, .int (nI k)), (4, .int (T_sum 1 f k)), (1, .int (nI n)), (0, .ref (ad 0))]) F.1 F.2.1 dL_areParts_173 rfl hl (by decide) rfl (fun ls hl => ?_)
      refine lv_iload F.1 F.2.1 dL_areParts_174 (lv_at hl 6 rfl) ?_
      refine lv_iload F.1 F.2.1 dL_areParts_176 (lv_at hl 4 rfl) ?_
      refine lv_iconst (v := 1) F.1 F.2.1 dL_areParts_178 (by decide) ?_
      refine lv_icmp_ne (tgt := 187) F.1 F.2.1 dL_areParts_179 (by decide) (fun c51 => ?_) (fun c51 => False.elim (by revert c51; decide))
      refine lv_iconst (v := 0) F.1 F.2.1 dL_areParts_187 (by decide) ?_
      refine lv_iadd F.1 F.2.1 dL_areParts_188 ?_
      refine lv_topi (fun v52 ev52 => ?_)
      have ev52 : v52 = T_sum 1 f (k + 1) := ev52.trans ((Int32.add_zero _).trans (if_neg (fun q => absurd (ko.symm.trans q) (by decide))).symm)
      subst ev52
      refine lv_istore (lv' := [(4, .int (T_sum 1 f (k + 1))), (3, .int (T_sum 0 f (k + 1))), (2, .int (T_least f (k + 1))), (8, .int (1)), (7, .int (valAt f k)), (6, .int (0)), (5, .int (nI k)), (1, .int (nI n)), (0, .ref (ad 0))]) F.1 F.2.1 dL_areParts_189 hl (by decide) rfl (fun ls hl => ?_)
      refine lv_iinc (v := (nI k) + 1) (lv' := [(5, .int ((nI k) + 1)), (4, .int (T_sum 1 f (k + 1))), (3, .int (T_sum 0 f (k + 1))), (2, .int (T_least f (k + 1))), (8, .int (1)), (7, .int (valAt f k)), (6, .int (0)), (1, .int (nI n)), (0, .ref (ad 0))]) F.1 F.2.1 dL_areParts_191 hl (k := 6) rfl rfl (by decide) rfl (fun ls hl => ?_)
      refine lv_goto (tgt := 16) F.1 F.2.1 dL_areParts_194 (by decide) ?_
      exact ih _ (by omega) _ _ _ _ ⟨k + 1, rfl, hkn, rfl, (by rw [nI_succ]; exact lv_sub hl [0, 1, 2, 3, 7, 8] rfl)⟩ hP hS
    · have z3 : f (64 + 5 * k) = 0 := o3.resolve_right (by rw [ko]; decide)
      have hv9 : (valAt f k).toInt ≤ 9 := by have q := o2.2; rw [if_neg (by rw [ko]; decide)] at q; exact q
      refine lv_aload_n F.1 F.2.1 dL_areParts_29 rfl (lv_at hl 5 rfl) ?_
      refine lv_iload F.1 F.2.1 dL_areParts_30 (lv_at hl 0 rfl) ?_
      refine lv_iconst (v := 0) F.1 F.2.1 dL_areParts_32 (by decide) ?_
      refine w_calli F hP hS (k_of l D Y ad N hI hN _ hL (nI k) 0) (cwVm 2 F.2.2.2.2.1 (fun _ h => h) mw_445 mw_717 mw_443 mw_444 mw_2 rfl rfl ydX7_of ⟨by decide, by decide⟩) (by omega) (ls_at hL) rfl rfl hl.1 rfl (Nat.le_of_ble_eq_true rfl) dL_areParts_33 ⟨Nat.zero_le _, Nat.zero_le _⟩ (fun r2 C2 H locs hq hP hS => ?_)
      obtain ⟨hw2, hr2⟩ := hq; rw [hw2] at hP
      have hr2 := hr2.trans ((of_0 h4 hkn hn).trans ko)
      subst hr2
      refine lv_istore (lv' := [(6, .int (1)), (5, .int (nI k)), (4, .int (T_sum 1 f k)), (3, .int (T_sum 0 f k)), (2, .int (T_least f k)), (1, .int (nI n)), (0, .ref (ad 0))]) F.1 F.2.1 dL_areParts_36 hl (by decide) rfl (fun ls hl => ?_)
      refine lv_aload_n F.1 F.2.1 dL_areParts_38 rfl (lv_at hl 6 rfl) ?_
      refine lv_iload F.1 F.2.1 dL_areParts_39 (lv_at hl 1 rfl) ?_
      refine lv_iconst (v := 1) F.1 F.2.1 dL_areParts_41 (by decide) ?_
      refine w_calli F hP hS (k_of l D Y ad N hI hN _ hL (nI k) 1) (cwVm 2 F.2.2.2.2.1 (fun _ h => h) mw_445 mw_717 mw_443 mw_444 mw_2 rfl rfl ydX7_of ⟨by decide, by decide⟩) (by omega) (ls_at hL) rfl rfl hl.1 rfl (Nat.le_of_ble_eq_true rfl) dL_areParts_42 ⟨Nat.zero_le _, Nat.zero_le _⟩ (fun r3 C2 H locs hq hP hS => ?_)
      obtain ⟨hw3, hr3⟩ := hq; rw [hw3] at hP
      have hr3 := hr3.trans (of_1 h4 hkn hn)
      subst hr3
      refine lv_istore (lv' := [(7, .int (valAt f k)), (6, .int (1)), (5, .int (nI k)), (4, .int (T_sum 1 f k)), (3, .int (T_sum 0 f k)), (2, .int (T_least f k)), (1, .int (nI n)), (0, .ref (ad 0))]) F.1 F.2.1 dL_areParts_45 hl (by decide) rfl (fun ls hl => ?_)
      refine lv_iload F.1 F.2.1 dL_areParts_47 (lv_at hl 1 rfl) ?_
      refine lv_if_lt (tgt := 127) F.1 F.2.1 dL_areParts_49 (by decide) (fun c53 => False.elim (by revert c53; decide)) (fun c53 => ?_)
      refine lv_iload F.1 F.2.1 dL_areParts_52 (lv_at hl 1 rfl) ?_
      refine lv_iconst (v := 3) F.1 F.2.1 dL_areParts_54 (by decide) ?_
      refine lv_icmp_ge (tgt := 127) F.1 F.2.1 dL_areParts_55 (by decide) (fun c54 => False.elim (by revert c54; decide)) (fun c54 => ?_)
      refine lv_iload F.1 F.2.1 dL_areParts_58 (lv_at hl 0 rfl) ?_
      refine lv_if_le (tgt := 127) F.1 F.2.1 dL_areParts_60 (by decide) (fun c55 => False.elim (il_0 o2.1 c55)) (fun c55 => ?_)
      refine lv_iload F.1 F.2.1 dL_areParts_63 (lv_at hl 0 rfl) ?_
      refine lv_iload F.1 F.2.1 dL_areParts_65 (lv_at hl 1 rfl) ?_
      refine lv_iconst (v := 2) F.1 F.2.1 dL_areParts_67 (by decide) ?_
      refine lv_icmp_ne (tgt := 76) F.1 F.2.1 dL_areParts_68 (by decide) (fun c56 => ?_) (fun c56 => False.elim (by revert c56; decide))
      refine lv_bipush (v := 10) F.1 F.2.1 dL_areParts_76 (by decide) ?_
      refine lv_icmp_ge (tgt := 127) F.1 F.2.1 dL_areParts_78 (by decide) (fun c57 => False.elim (i_leF (show (valAt f k).toInt < (10 : Int32).toInt by have e : (10 : Int32).toInt = 10 := rfl; omega) c57)) (fun c57 => ?_)
      refine lv_aload_n F.1 F.2.1 dL_areParts_81 rfl (lv_at hl 7 rfl) ?_
      refine lv_iload F.1 F.2.1 dL_areParts_82 (lv_at hl 2 rfl) ?_
      refine lv_iconst (v := 3) F.1 F.2.1 dL_areParts_84 (by decide) ?_
      refine w_calli F hP hS (k_of l D Y ad N hI hN _ hL (nI k) 3) (cwVm 2 F.2.2.2.2.1 (fun _ h => h) mw_445 mw_717 mw_443 mw_444 mw_2 rfl rfl ydX7_of ⟨by decide, by decide⟩) (by omega) (ls_at hL) rfl rfl hl.1 rfl (Nat.le_of_ble_eq_true rfl) dL_areParts_85 ⟨Nat.zero_le _, Nat.zero_le _⟩ (fun r4 C2 H locs hq hP hS => ?_)
      obtain ⟨hw4, hr4⟩ := hq; rw [hw4] at hP
      have hr4 := hr4.trans ((of_3 h4 hkn hn).trans z3)
      subst hr4
      refine lv_if_eq (tgt := 97) F.1 F.2.1 dL_areParts_88 (by decide) (fun c58 => ?_) (fun c58 => False.elim (by revert c58; decide))
      refine lv_aload_n F.1 F.2.1 dL_areParts_97 rfl (lv_at hl 7 rfl) ?_
      refine lv_iload F.1 F.2.1 dL_areParts_98 (lv_at hl 2 rfl) ?_
      refine lv_iconst (v := 4) F.1 F.2.1 dL_areParts_100 (by decide) ?_
      refine w_calli F hP hS (k_of l D Y ad N hI hN _ hL (nI k) 4) (cwVm 2 F.2.2.2.2.1 (fun _ h => h) mw_445 mw_717 mw_443 mw_444 mw_2 rfl rfl ydX7_of ⟨by decide, by decide⟩) (by omega) (ls_at hL) rfl rfl hl.1 rfl (Nat.le_of_ble_eq_true rfl) dL_areParts_101 ⟨Nat.zero_le _, Nat.zero_le _⟩ (fun r5 C2 H locs hq hP hS => ?_)
      obtain ⟨hw5, hr5⟩ := hq; rw [hw5] at hP
      have hr5 := hr5.trans (of_4 h4 hkn hn)
      subst hr5
      refine lv_if_eq (tgt := 113) F.1 F.2.1 dL_areParts_104 (by decide) (fun c59 => ?_) (fun c59 => ?_)
      · refine lv_aload_n F.1 F.2.1 dL_areParts_113 rfl (lv_at hl 7 rfl) ?_
        refine lv_iload F.1 F.2.1 dL_areParts_114 (lv_at hl 2 rfl) ?_
        refine lv_iconst (v := 2) F.1 F.2.1 dL_areParts_116 (by decide) ?_
        refine w_calli F hP hS (k_of l D Y ad N hI hN _ hL (nI k) 2) (cwVm 2 F.2.2.2.2.1 (fun _ h => h) mw_445 mw_717 mw_443 mw_444 mw_2 rfl rfl ydX7_of ⟨by decide, by decide⟩) (by omega) (ls_at hL) rfl rfl hl.1 rfl (Nat.le_of_ble_eq_true rfl) dL_areParts_117 ⟨Nat.zero_le _, Nat.zero_le _⟩ (fun r6 C2 H locs hq hP hS => ?_)
        obtain ⟨hw6, hr6⟩ := hq; rw [hw6] at hP
        have hr6 := hr6.trans (of_2 h4 hkn hn)
        subst hr6
        refine lv_if_lt (tgt := 127) F.1 F.2.1 dL_areParts_120 (by decide) (fun c60 => False.elim (il_lt o5.1 c60)) (fun c60 => ?_)
        refine lv_iconst (v := 1) F.1 F.2.1 dL_areParts_123 (by decide) ?_
        refine lv_goto (tgt := 128) F.1 F.2.1 dL_areParts_124 (by decide) ?_
        refine lv_istore (lv' := [(8, .int (1)), (7, .int (valAt f k)), (6, .int (1)), (5, .int (nI k)), (4, .int (T_sum 1 f k)), (3, .int (T_sum 0 f k)), (2, .int (T_least f k)), (1, .int (nI n)), (0, .ref (ad 0))]) F.1 F.2.1 dL_areParts_128 hl (by decide) rfl (fun ls hl => ?_)
        refine lv_iload F.1 F.2.1 dL_areParts_130 (lv_at hl 0 rfl) ?_
        refine lv_if_ne (tgt := 137) F.1 F.2.1 dL_areParts_132 (by decide) (fun c61 => ?_) (fun c61 => False.elim (by revert c61; decide))
        refine lv_iload F.1 F.2.1 dL_areParts_137 (lv_at hl 2 rfl) ?_
        refine lv_iconst (v := 2) F.1 F.2.1 dL_areParts_139 (by decide) ?_
        refine lv_icmp_ne (tgt := 158) F.1 F.2.1 dL_areParts_140 (by decide) (fun c62 => ?_) (fun c62 => False.elim (by revert c62; decide))
        refine lv_iload_n F.1 F.2.1 dL_areParts_158 rfl (lv_at hl 6 rfl) ?_
        refine lv_topi (fun v63 ev63 => ?_)
        have ev63 : v63 = T_least f (k + 1) := ev63.trans (if_neg (fun q => absurd (ko.symm.trans q.1) (by decide))).symm
        subst ev63
        refine lv_istore_n (lv' := [(2, .int (T_least f (k + 1))), (8, .int (1)), (7, .int (valAt f k)), (6, .int (1)), (5, .int (nI k)), (4, .int (T_sum 1 f k)), (3, .int (T_sum 0 f k)), (1, .int (nI n)), (0, .ref (ad 0))]) F.1 F.2.1 dL_areParts_159 rfl hl (by decide) rfl (fun ls hl => ?_)
        refine lv_iload_n F.1 F.2.1 dL_areParts_160 rfl (lv_at hl 6 rfl) ?_
        refine lv_iload F.1 F.2.1 dL_areParts_161 (lv_at hl 3 rfl) ?_
        refine lv_if_ne (tgt := 171) F.1 F.2.1 dL_areParts_163 (by decide) (fun c64 => ?_) (fun c64 => False.elim (by revert c64; decide))
        refine lv_iconst (v := 0) F.1 F.2.1 dL_areParts_171 (by decide) ?_
        refine lv_iadd F.1 F.2.1 dL_areParts_172 ?_
        refine lv_topi (fun v65 ev65 => ?_)
        have ev65 : v65 = T_sum 0 f (k + 1) := ev65.trans ((Int32.add_zero _).trans (if_neg (fun q => absurd (ko.symm.trans q) (by decide))).symm)
        subst ev65
        refine lv_istore_n (lv' := [(3, .int (T_sum 0 f (k + 1))), (2, .int (T_least f (k + 1))), (8, .int (1)), (7, .int (valAt f k)), (6, .int (1)), (5, .int (nI k)), (4, .int (T_sum 1 f k)), (1, .int (nI n)), (0, .ref (ad 0))]) F.1 F.2.1 dL_areParts_173 rfl hl (by decide) rfl (fun ls hl => ?_)
        refine lv_iload F.1 F.2.1 dL_areParts_174 (lv_at hl 6 rfl) ?_
        refine lv_iload F.1 F.2.1 dL_areParts_176 (lv_at hl 4 rfl) ?_
        refine lv_iconst (v := 1) F.1 F.2.1 dL_areParts_178 (by decide) ?_
        refine lv_icmp_ne (tgt := 187) F.1 F.2.1 dL_areParts_179 (by decide) (fun c66 => False.elim (by revert c66; decide)) (fun c66 => ?_)
        refine lv_iload F.1 F.2.1 dL_areParts_182 (lv_at hl 3 rfl) ?_
        refine lv_goto (tgt := 188) F.1 F.2.1 dL_areParts_184 (by decide) ?_
        refine lv_iadd F.1 F.2.1 dL_areParts_188 ?_
        refine lv_topi (fun v67 ev67 => ?_)
        have ev67 : v67 = T_sum 1 f (k + 1) := ev67.trans (if_pos ko).symm
        subst ev67
        refine lv_istore (lv' := [(4, .int (T_sum 1 f (k + 1))), (3, .int (T_sum 0 f (k + 1))), (2, .int (T_least f (k + 1))), (8, .int (1)), (7, .int (valAt f k)), (6, .int (1)), (5, .int (nI k)), (1, .int (nI n)), (0, .ref (ad 0))]) F.1 F.2.1 dL_areParts_189 hl (by decide) rfl (fun ls hl => ?_)
        refine lv_iinc (v := (nI k) + 1) (lv' := [(5, .int ((nI k) + 1)), (4, .int (T_sum 1 f (k + 1))), (3, .int (T_sum 0 f (k + 1))), (2, .int (T_least f (k + 1))), (8, .int (1)), (7, .int (valAt f k)), (6, .int (1)), (1, .int (nI n)), (0, .ref (ad 0))]) F.1 F.2.1 dL_areParts_191 hl (k := 6) rfl rfl (by decide) rfl (fun ls hl => ?_)
        refine lv_goto (tgt := 16) F.1 F.2.1 dL_areParts_194 (by decide) ?_
        exact ih _ (by omega) _ _ _ _ ⟨k + 1, rfl, hkn, rfl, (by rw [nI_succ]; exact lv_sub hl [0, 1, 2, 3, 7, 8] rfl)⟩ hP hS
      · refine lv_iload F.1 F.2.1 dL_areParts_107 (lv_at hl 1 rfl) ?_
        refine lv_iconst (v := 1) F.1 F.2.1 dL_areParts_109 (by decide) ?_
        refine lv_icmp_ne (tgt := 127) F.1 F.2.1 dL_areParts_110 (by decide) (fun c68 => False.elim (by revert c68; decide)) (fun c68 => ?_)
        refine lv_aload_n F.1 F.2.1 dL_areParts_113 rfl (lv_at hl 7 rfl) ?_
        refine lv_iload F.1 F.2.1 dL_areParts_114 (lv_at hl 2 rfl) ?_
        refine lv_iconst (v := 2) F.1 F.2.1 dL_areParts_116 (by decide) ?_
        refine w_calli F hP hS (k_of l D Y ad N hI hN _ hL (nI k) 2) (cwVm 2 F.2.2.2.2.1 (fun _ h => h) mw_445 mw_717 mw_443 mw_444 mw_2 rfl rfl ydX7_of ⟨by decide, by decide⟩) (by omega) (ls_at hL) rfl rfl hl.1 rfl (Nat.le_of_ble_eq_true rfl) dL_areParts_117 ⟨Nat.zero_le _, Nat.zero_le _⟩ (fun r6 C2 H locs hq hP hS => ?_)
        obtain ⟨hw6, hr6⟩ := hq; rw [hw6] at hP
        have hr6 := hr6.trans (of_2 h4 hkn hn)
        subst hr6
        refine lv_if_lt (tgt := 127) F.1 F.2.1 dL_areParts_120 (by decide) (fun c69 => False.elim (il_lt o5.1 c69)) (fun c69 => ?_)
        refine lv_iconst (v := 1) F.1 F.2.1 dL_areParts_123 (by decide) ?_
        refine lv_goto (tgt := 128) F.1 F.2.1 dL_areParts_124 (by decide) ?_
        refine lv_istore (lv' := [(8, .int (1)), (7, .int (valAt f k)), (6, .int (1)), (5, .int (nI k)), (4, .int (T_sum 1 f k)), (3, .int (T_sum 0 f k)), (2, .int (T_least f k)), (1, .int (nI n)), (0, .ref (ad 0))]) F.1 F.2.1 dL_areParts_128 hl (by decide) rfl (fun ls hl => ?_)
        refine lv_iload F.1 F.2.1 dL_areParts_130 (lv_at hl 0 rfl) ?_
        refine lv_if_ne (tgt := 137) F.1 F.2.1 dL_areParts_132 (by decide) (fun c70 => ?_) (fun c70 => False.elim (by revert c70; decide))
        refine lv_iload F.1 F.2.1 dL_areParts_137 (lv_at hl 2 rfl) ?_
        refine lv_iconst (v := 2) F.1 F.2.1 dL_areParts_139 (by decide) ?_
        refine lv_icmp_ne (tgt := 158) F.1 F.2.1 dL_areParts_140 (by decide) (fun c71 => ?_) (fun c71 => False.elim (by revert c71; decide))
        refine lv_iload_n F.1 F.2.1 dL_areParts_158 rfl (lv_at hl 6 rfl) ?_
        refine lv_topi (fun v72 ev72 => ?_)
        have ev72 : v72 = T_least f (k + 1) := ev72.trans (if_neg (fun q => absurd (ko.symm.trans q.1) (by decide))).symm
        subst ev72
        refine lv_istore_n (lv' := [(2, .int (T_least f (k + 1))), (8, .int (1)), (7, .int (valAt f k)), (6, .int (1)), (5, .int (nI k)), (4, .int (T_sum 1 f k)), (3, .int (T_sum 0 f k)), (1, .int (nI n)), (0, .ref (ad 0))]) F.1 F.2.1 dL_areParts_159 rfl hl (by decide) rfl (fun ls hl => ?_)
        refine lv_iload_n F.1 F.2.1 dL_areParts_160 rfl (lv_at hl 6 rfl) ?_
        refine lv_iload F.1 F.2.1 dL_areParts_161 (lv_at hl 3 rfl) ?_
        refine lv_if_ne (tgt := 171) F.1 F.2.1 dL_areParts_163 (by decide) (fun c73 => ?_) (fun c73 => False.elim (by revert c73; decide))
        refine lv_iconst (v := 0) F.1 F.2.1 dL_areParts_171 (by decide) ?_
        refine lv_iadd F.1 F.2.1 dL_areParts_172 ?_
        refine lv_topi (fun v74 ev74 => ?_)
        have ev74 : v74 = T_sum 0 f (k + 1) := ev74.trans ((Int32.add_zero _).trans (if_neg (fun q => absurd (ko.symm.trans q) (by decide))).symm)
        subst ev74
        refine lv_istore_n (lv' := [(3, .int (T_sum 0 f (k + 1))), (2, .int (T_least f (k + 1))), (8, .int (1)), (7, .int (valAt f k)), (6, .int (1)), (5, .int (nI k)), (4, .int (T_sum 1 f k)), (1, .int (nI n)), (0, .ref (ad 0))]) F.1 F.2.1 dL_areParts_173 rfl hl (by decide) rfl (fun ls hl => ?_)
        refine lv_iload F.1 F.2.1 dL_areParts_174 (lv_at hl 6 rfl) ?_
        refine lv_iload F.1 F.2.1 dL_areParts_176 (lv_at hl 4 rfl) ?_
        refine lv_iconst (v := 1) F.1 F.2.1 dL_areParts_178 (by decide) ?_
        refine lv_icmp_ne (tgt := 187) F.1 F.2.1 dL_areParts_179 (by decide) (fun c75 => False.elim (by revert c75; decide)) (fun c75 => ?_)
        refine lv_iload F.1 F.2.1 dL_areParts_182 (lv_at hl 3 rfl) ?_
        refine lv_goto (tgt := 188) F.1 F.2.1 dL_areParts_184 (by decide) ?_
        refine lv_iadd F.1 F.2.1 dL_areParts_188 ?_
        refine lv_topi (fun v76 ev76 => ?_)
        have ev76 : v76 = T_sum 1 f (k + 1) := ev76.trans (if_pos ko).symm
        subst ev76
        refine lv_istore (lv' := [(4, .int (T_sum 1 f (k + 1))), (3, .int (T_sum 0 f (k + 1))), (2, .int (T_least f (k + 1))), (8, .int (1)), (7, .int (valAt f k)), (6, .int (1)), (5, .int (nI k)), (1, .int (nI n)), (0, .ref (ad 0))]) F.1 F.2.1 dL_areParts_189 hl (by decide) rfl (fun ls hl => ?_)
        refine lv_iinc (v := (nI k) + 1) (lv' := [(5, .int ((nI k) + 1)), (4, .int (T_sum 1 f (k + 1))), (3, .int (T_sum 0 f (k + 1))), (2, .int (T_least f (k + 1))), (8, .int (1)), (7, .int (valAt f k)), (6, .int (1)), (1, .int (nI n)), (0, .ref (ad 0))]) F.1 F.2.1 dL_areParts_191 hl (k := 6) rfl rfl (by decide) rfl (fun ls hl => ?_)
        refine lv_goto (tgt := 16) F.1 F.2.1 dL_areParts_194 (by decide) ?_
        exact ih _ (by omega) _ _ _ _ ⟨k + 1, rfl, hkn, rfl, (by rw [nI_succ]; exact lv_sub hl [0, 1, 2, 3, 7, 8] rfl)⟩ hP hS
    · have z4 : f (65 + 5 * k) = 0 := o4.resolve_right (by rw [ko]; decide)
      have hv9 : (valAt f k).toInt ≤ 99 := by have q := o2.2; rw [if_pos (by rw [ko])] at q; exact q
      refine lv_aload_n F.1 F.2.1 dL_areParts_29 rfl (lv_at hl 5 rfl) ?_
      refine lv_iload F.1 F.2.1 dL_areParts_30 (lv_at hl 0 rfl) ?_
      refine lv_iconst (v := 0) F.1 F.2.1 dL_areParts_32 (by decide) ?_
      refine w_calli F hP hS (k_of l D Y ad N hI hN _ hL (nI k) 0) (cwVm 2 F.2.2.2.2.1 (fun _ h => h) mw_445 mw_717 mw_443 mw_444 mw_2 rfl rfl ydX7_of ⟨by decide, by decide⟩) (by omega) (ls_at hL) rfl rfl hl.1 rfl (Nat.le_of_ble_eq_true rfl) dL_areParts_33 ⟨Nat.zero_le _, Nat.zero_le _⟩ (fun r2 C2 H locs hq hP hS => ?_)
      obtain ⟨hw2, hr2⟩ := hq; rw [hw2] at hP
      have hr2 := hr2.trans ((of_0 h4 hkn hn).trans ko)
      subst hr2
      refine lv_istore (lv' := [(6, .int (2)), (5, .int (nI k)), (4, .int (T_sum 1 f k)), (3, .int (T_sum 0 f k)), (2, .int (T_least f k)), (1, .int (nI n)), (0, .ref (ad 0))]) F.1 F.2.1 dL_areParts_36 hl (by decide) rfl (fun ls hl => ?_)
      refine lv_aload_n F.1 F.2.1 dL_areParts_38 rfl (lv_at hl 6 rfl) ?_
      refine lv_iload F.1 F.2.1 dL_areParts_39 (lv_at hl 1 rfl) ?_
      refine lv_iconst (v := 1) F.1 F.2.1 dL_areParts_41 (by decide) ?_
      refine w_calli F hP hS (k_of l D Y ad N hI hN _ hL (nI k) 1) (cwVm 2 F.2.2.2.2.1 (fun _ h => h) mw_445 mw_717 mw_443 mw_444 mw_2 rfl rfl ydX7_of ⟨by decide, by decide⟩) (by omega) (ls_at hL) rfl rfl hl.1 rfl (Nat.le_of_ble_eq_true rfl) dL_areParts_42 ⟨Nat.zero_le _, Nat.zero_le _⟩ (fun r3 C2 H locs hq hP hS => ?_)
      obtain ⟨hw3, hr3⟩ := hq; rw [hw3] at hP
      have hr3 := hr3.trans (of_1 h4 hkn hn)
      subst hr3
      refine lv_istore (lv' := [(7, .int (valAt f k)), (6, .int (2)), (5, .int (nI k)), (4, .int (T_sum 1 f k)), (3, .int (T_sum 0 f k)), (2, .int (T_least f k)), (1, .int (nI n)), (0, .ref (ad 0))]) F.1 F.2.1 dL_areParts_45 hl (by decide) rfl (fun ls hl => ?_)
      refine lv_iload F.1 F.2.1 dL_areParts_47 (lv_at hl 1 rfl) ?_
      refine lv_if_lt (tgt := 127) F.1 F.2.1 dL_areParts_49 (by decide) (fun c77 => False.elim (by revert c77; decide)) (fun c77 => ?_)
      refine lv_iload F.1 F.2.1 dL_areParts_52 (lv_at hl 1 rfl) ?_
      refine lv_iconst (v := 3) F.1 F.2.1 dL_areParts_54 (by decide) ?_
      refine lv_icmp_ge (tgt := 127) F.1 F.2.1 dL_areParts_55 (by decide) (fun c78 => False.elim (by revert c78; decide)) (fun c78 => ?_)
      refine lv_iload F.1 F.2.1 dL_areParts_58 (lv_at hl 0 rfl) ?_
      refine lv_if_le (tgt := 127) F.1 F.2.1 dL_areParts_60 (by decide) (fun c79 => False.elim (il_0 o2.1 c79)) (fun c79 => ?_)
      refine lv_iload F.1 F.2.1 dL_areParts_63 (lv_at hl 0 rfl) ?_
      refine lv_iload F.1 F.2.1 dL_areParts_65 (lv_at hl 1 rfl) ?_
      refine lv_iconst (v := 2) F.1 F.2.1 dL_areParts_67 (by decide) ?_
      refine lv_icmp_ne (tgt := 76) F.1 F.2.1 dL_areParts_68 (by decide) (fun c80 => False.elim (by revert c80; decide)) (fun c80 => ?_)
      refine lv_bipush (v := 100) F.1 F.2.1 dL_areParts_71 (by decide) ?_
      refine lv_goto (tgt := 78) F.1 F.2.1 dL_areParts_73 (by decide) ?_
      refine lv_icmp_ge (tgt := 127) F.1 F.2.1 dL_areParts_78 (by decide) (fun c81 => False.elim (i_leF (show (valAt f k).toInt < (100 : Int32).toInt by have e : (100 : Int32).toInt = 100 := rfl; omega) c81)) (fun c81 => ?_)
      refine lv_aload_n F.1 F.2.1 dL_areParts_81 rfl (lv_at hl 7 rfl) ?_
      refine lv_iload F.1 F.2.1 dL_areParts_82 (lv_at hl 2 rfl) ?_
      refine lv_iconst (v := 3) F.1 F.2.1 dL_areParts_84 (by decide) ?_
      refine w_calli F hP hS (k_of l D Y ad N hI hN _ hL (nI k) 3) (cwVm 2 F.2.2.2.2.1 (fun _ h => h) mw_445 mw_717 mw_443 mw_444 mw_2 rfl rfl ydX7_of ⟨by decide, by decide⟩) (by omega) (ls_at hL) rfl rfl hl.1 rfl (Nat.le_of_ble_eq_true rfl) dL_areParts_85 ⟨Nat.zero_le _, Nat.zero_le _⟩ (fun r4 C2 H locs hq hP hS => ?_)
      obtain ⟨hw4, hr4⟩ := hq; rw [hw4] at hP
      have hr4 := hr4.trans (of_3 h4 hkn hn)
      subst hr4
      refine lv_if_eq (tgt := 97) F.1 F.2.1 dL_areParts_88 (by decide) (fun c82 => ?_) (fun c82 => ?_)
      · refine lv_aload_n F.1 F.2.1 dL_areParts_97 rfl (lv_at hl 7 rfl) ?_
        refine lv_iload F.1 F.2.1 dL_areParts_98 (lv_at hl 2 rfl) ?_
        refine lv_iconst (v := 4) F.1 F.2.1 dL_areParts_100 (by decide) ?_
        refine w_calli F hP hS (k_of l D Y ad N hI hN _ hL (nI k) 4) (cwVm 2 F.2.2.2.2.1 (fun _ h => h) mw_445 mw_717 mw_443 mw_444 mw_2 rfl rfl ydX7_of ⟨by decide, by decide⟩) (by omega) (ls_at hL) rfl rfl hl.1 rfl (Nat.le_of_ble_eq_true rfl) dL_areParts_101 ⟨Nat.zero_le _, Nat.zero_le _⟩ (fun r5 C2 H locs hq hP hS => ?_)
        obtain ⟨hw5, hr5⟩ := hq; rw [hw5] at hP
        have hr5 := hr5.trans ((of_4 h4 hkn hn).trans z4)
        subst hr5
        refine lv_if_eq (tgt := 113) F.1 F.2.1 dL_areParts_104 (by decide) (fun c83 => ?_) (fun c83 => False.elim (by revert c83; decide))
        refine lv_aload_n F.1 F.2.1 dL_areParts_113 rfl (lv_at hl 7 rfl) ?_
        refine lv_iload F.1 F.2.1 dL_areParts_114 (lv_at hl 2 rfl) ?_
        refine lv_iconst (v := 2) F.1 F.2.1 dL_areParts_116 (by decide) ?_
        refine w_calli F hP hS (k_of l D Y ad N hI hN _ hL (nI k) 2) (cwVm 2 F.2.2.2.2.1 (fun _ h => h) mw_445 mw_717 mw_443 mw_444 mw_2 rfl rfl ydX7_of ⟨by decide, by decide⟩) (by omega) (ls_at hL) rfl rfl hl.1 rfl (Nat.le_of_ble_eq_true rfl) dL_areParts_117 ⟨Nat.zero_le _, Nat.zero_le _⟩ (fun r6 C2 H locs hq hP hS => ?_)
        obtain ⟨hw6, hr6⟩ := hq; rw [hw6] at hP
        have hr6 := hr6.trans (of_2 h4 hkn hn)
        subst hr6
        refine lv_if_lt (tgt := 127) F.1 F.2.1 dL_areParts_120 (by decide) (fun c84 => False.elim (il_lt o5.1 c84)) (fun c84 => ?_)
        refine lv_iconst (v := 1) F.1 F.2.1 dL_areParts_123 (by decide) ?_
        refine lv_goto (tgt := 128) F.1 F.2.1 dL_areParts_124 (by decide) ?_
        refine lv_istore (lv' := [(8, .int (1)), (7, .int (valAt f k)), (6, .int (2)), (5, .int (nI k)), (4, .int (T_sum 1 f k)), (3, .int (T_sum 0 f k)), (2, .int (T_least f k)), (1, .int (nI n)), (0, .ref (ad 0))]) F.1 F.2.1 dL_areParts_128 hl (by decide) rfl (fun ls hl => ?_)
        refine lv_iload F.1 F.2.1 dL_areParts_130 (lv_at hl 0 rfl) ?_
        refine lv_if_ne (tgt := 137) F.1 F.2.1 dL_areParts_132 (by decide) (fun c85 => ?_) (fun c85 => False.elim (by revert c85; decide))
        refine lv_iload F.1 F.2.1 dL_areParts_137 (lv_at hl 2 rfl) ?_
        refine lv_iconst (v := 2) F.1 F.2.1 dL_areParts_139 (by decide) ?_
        refine lv_icmp_ne (tgt := 158) F.1 F.2.1 dL_areParts_140 (by decide) (fun c86 => False.elim (by revert c86; decide)) (fun c86 => ?_)
        refine lv_iload_n F.1 F.2.1 dL_areParts_143 rfl (lv_at hl 6 rfl) ?_
        refine lv_if_eq (tgt := 153) F.1 F.2.1 dL_areParts_144 (by decide) (fun c87 => ?_) (fun c87 => ?_)
        · refine lv_iload F.1 F.2.1 dL_areParts_153 (lv_at hl 1 rfl) ?_
          refine lv_goto (tgt := 159) F.1 F.2.1 dL_areParts_155 (by decide) ?_
          refine lv_topi (fun v88 ev88 => ?_)
          have ev88 : v88 = T_least f (k + 1) := ev88.trans (if_pos ⟨ko, Or.inl c87⟩).symm
          subst ev88
          refine lv_istore_n (lv' := [(2, .int (T_least f (k + 1))), (8, .int (1)), (7, .int (valAt f k)), (6, .int (2)), (5, .int (nI k)), (4, .int (T_sum 1 f k)), (3, .int (T_sum 0 f k)), (1, .int (nI n)), (0, .ref (ad 0))]) F.1 F.2.1 dL_areParts_159 rfl hl (by decide) rfl (fun ls hl => ?_)
          refine lv_iload_n F.1 F.2.1 dL_areParts_160 rfl (lv_at hl 6 rfl) ?_
          refine lv_iload F.1 F.2.1 dL_areParts_161 (lv_at hl 3 rfl) ?_
          refine lv_if_ne (tgt := 171) F.1 F.2.1 dL_areParts_163 (by decide) (fun c89 => ?_) (fun c89 => False.elim (by revert c89; decide))
          refine lv_iconst (v := 0) F.1 F.2.1 dL_areParts_171 (by decide) ?_
          refine lv_iadd F.1 F.2.1 dL_areParts_172 ?_
          refine lv_topi (fun v90 ev90 => ?_)
          have ev90 : v90 = T_sum 0 f (k + 1) := ev90.trans ((Int32.add_zero _).trans (if_neg (fun q => absurd (ko.symm.trans q) (by decide))).symm)
          subst ev90
          refine lv_istore_n (lv' := [(3, .int (T_sum 0 f (k + 1))), (2, .int (T_least f (k + 1))), (8, .int (1)), (7, .int (valAt f k)), (6, .int (2)), (5, .int (nI k)), (4, .int (T_sum 1 f k)), (1, .int (nI n)), (0, .ref (ad 0))]) F.1 F.2.1 dL_areParts_173 rfl hl (by decide) rfl (fun ls hl => ?_)
          refine lv_iload F.1 F.2.1 dL_areParts_174 (lv_at hl 6 rfl) ?_
          refine lv_iload F.1 F.2.1 dL_areParts_176 (lv_at hl 4 rfl) ?_
          refine lv_iconst (v := 1) F.1 F.2.1 dL_areParts_178 (by decide) ?_
          refine lv_icmp_ne (tgt := 187) F.1 F.2.1 dL_areParts_179 (by decide) (fun c91 => ?_) (fun c91 => False.elim (by revert c91; decide))
          refine lv_iconst (v := 0) F.1 F.2.1 dL_areParts_187 (by decide) ?_
          refine lv_iadd F.1 F.2.1 dL_areParts_188 ?_
          refine lv_topi (fun v92 ev92 => ?_)
          have ev92 : v92 = T_sum 1 f (k + 1) := ev92.trans ((Int32.add_zero _).trans (if_neg (fun q => absurd (ko.symm.trans q) (by decide))).symm)
          subst ev92
          refine lv_istore (lv' := [(4, .int (T_sum 1 f (k + 1))), (3, .int (T_sum 0 f (k + 1))), (2, .int (T_least f (k + 1))), (8, .int (1)), (7, .int (valAt f k)), (6, .int (2)), (5, .int (nI k)), (1, .int (nI n)), (0, .ref (ad 0))]) F.1 F.2.1 dL_areParts_189 hl (by decide) rfl (fun ls hl => ?_)
          refine lv_iinc (v := (nI k) + 1) (lv' := [(5, .int ((nI k) + 1)), (4, .int (T_sum 1 f (k + 1))), (3, .int (T_sum 0 f (k + 1))), (2, .int (T_least f (k + 1))), (8, .int (1)), (7, .int (valAt f k)), (6, .int (2)), (1, .int (nI n)), (0, .ref (ad 0))]) F.1 F.2.1 dL_areParts_191 hl (k := 6) rfl rfl (by decide) rfl (fun ls hl => ?_)
          refine lv_goto (tgt := 16) F.1 F.2.1 dL_areParts_194 (by decide) ?_
          exact ih _ (by omega) _ _ _ _ ⟨k + 1, rfl, hkn, rfl, (by rw [nI_succ]; exact lv_sub hl [0, 1, 2, 3, 7, 8] rfl)⟩ hP hS
        · refine lv_iload F.1 F.2.1 dL_areParts_147 (lv_at hl 1 rfl) ?_
          refine lv_iload_n F.1 F.2.1 dL_areParts_149 rfl (lv_at hl 6 rfl) ?_
          refine lv_icmp_ge (tgt := 158) F.1 F.2.1 dL_areParts_150 (by decide) (fun c93 => ?_) (fun c93 => ?_)
          · refine lv_iload_n F.1 F.2.1 dL_areParts_158 rfl (lv_at hl 6 rfl) ?_
            refine lv_topi (fun v94 ev94 => ?_)
            have ev94 : v94 = T_least f (k + 1) := ev94.trans (if_neg (fun q => q.2.elim c87 (i_nlt c93))).symm
            subst ev94
            refine lv_istore_n (lv' := [(2, .int (T_least f (k + 1))), (8, .int (1)), (7, .int (valAt f k)), (6, .int (2)), (5, .int (nI k)), (4, .int (T_sum 1 f k)), (3, .int (T_sum 0 f k)), (1, .int (nI n)), (0, .ref (ad 0))]) F.1 F.2.1 dL_areParts_159 rfl hl (by decide) rfl (fun ls hl => ?_)
            refine lv_iload_n F.1 F.2.1 dL_areParts_160 rfl (lv_at hl 6 rfl) ?_
            refine lv_iload F.1 F.2.1 dL_areParts_161 (lv_at hl 3 rfl) ?_
            refine lv_if_ne (tgt := 171) F.1 F.2.1 dL_areParts_163 (by decide) (fun c95 => ?_) (fun c95 => False.elim (by revert c95; decide))
            refine lv_iconst (v := 0) F.1 F.2.1 dL_areParts_171 (by decide) ?_
            refine lv_iadd F.1 F.2.1 dL_areParts_172 ?_
            refine lv_topi (fun v96 ev96 => ?_)
            have ev96 : v96 = T_sum 0 f (k + 1) := ev96.trans ((Int32.add_zero _).trans (if_neg (fun q => absurd (ko.symm.trans q) (by decide))).symm)
            subst ev96
            refine lv_istore_n (lv' := [(3, .int (T_sum 0 f (k + 1))), (2, .int (T_least f (k + 1))), (8, .int (1)), (7, .int (valAt f k)), (6, .int (2)), (5, .int (nI k)), (4, .int (T_sum 1 f k)), (1, .int (nI n)), (0, .ref (ad 0))]) F.1 F.2.1 dL_areParts_173 rfl hl (by decide) rfl (fun ls hl => ?_)
            refine lv_iload F.1 F.2.1 dL_areParts_174 (lv_at hl 6 rfl) ?_
            refine lv_iload F.1 F.2.1 dL_areParts_176 (lv_at hl 4 rfl) ?_
            refine lv_iconst (v := 1) F.1 F.2.1 dL_areParts_178 (by decide) ?_
            refine lv_icmp_ne (tgt := 187) F.1 F.2.1 dL_areParts_179 (by decide) (fun c97 => ?_) (fun c97 => False.elim (by revert c97; decide))
            refine lv_iconst (v := 0) F.1 F.2.1 dL_areParts_187 (by decide) ?_
            refine lv_iadd F.1 F.2.1 dL_areParts_188 ?_
            refine lv_topi (fun v98 ev98 => ?_)
            have ev98 : v98 = T_sum 1 f (k + 1) := ev98.trans ((Int32.add_zero _).trans (if_neg (fun q => absurd (ko.symm.trans q) (by decide))).symm)
            subst ev98
            refine lv_istore (lv' := [(4, .int (T_sum 1 f (k + 1))), (3, .int (T_sum 0 f (k + 1))), (2, .int (T_least f (k + 1))), (8, .int (1)), (7, .int (valAt f k)), (6, .int (2)), (5, .int (nI k)), (1, .int (nI n)), (0, .ref (ad 0))]) F.1 F.2.1 dL_areParts_189 hl (by decide) rfl (fun ls hl => ?_)
            refine lv_iinc (v := (nI k) + 1) (lv' := [(5, .int ((nI k) + 1)), (4, .int (T_sum 1 f (k + 1))), (3, .int (T_sum 0 f (k + 1))), (2, .int (T_least f (k + 1))), (8, .int (1)), (7, .int (valAt f k)), (6, .int (2)), (1, .int (nI n)), (0, .ref (ad 0))]) F.1 F.2.1 dL_areParts_191 hl (k := 6) rfl rfl (by decide) rfl (fun ls hl => ?_)
            refine lv_goto (tgt := 16) F.1 F.2.1 dL_areParts_194 (by decide) ?_
            exact ih _ (by omega) _ _ _ _ ⟨k + 1, rfl, hkn, rfl, (by rw [nI_succ]; exact lv_sub hl [0, 1, 2, 3, 7, 8] rfl)⟩ hP hS
          · refine lv_iload F.1 F.2.1 dL_areParts_153 (lv_at hl 1 rfl) ?_
            refine lv_goto (tgt := 159) F.1 F.2.1 dL_areParts_155 (by decide) ?_
            refine lv_topi (fun v99 ev99 => ?_)
            have ev99 : v99 = T_least f (k + 1) := ev99.trans (if_pos ⟨ko, Or.inr (i_lt c93)⟩).symm
            subst ev99
            refine lv_istore_n (lv' := [(2, .int (T_least f (k + 1))), (8, .int (1)), (7, .int (valAt f k)), (6, .int (2)), (5, .int (nI k)), (4, .int (T_sum 1 f k)), (3, .int (T_sum 0 f k)), (1, .int (nI n)), (0, .ref (ad 0))]) F.1 F.2.1 dL_areParts_159 rfl hl (by decide) rfl (fun ls hl => ?_)
            refine lv_iload_n F.1 F.2.1 dL_areParts_160 rfl (lv_at hl 6 rfl) ?_
            refine lv_iload F.1 F.2.1 dL_areParts_161 (lv_at hl 3 rfl) ?_
            refine lv_if_ne (tgt := 171) F.1 F.2.1 dL_areParts_163 (by decide) (fun c100 => ?_) (fun c100 => False.elim (by revert c100; decide))
            refine lv_iconst (v := 0) F.1 F.2.1 dL_areParts_171 (by decide) ?_
            refine lv_iadd F.1 F.2.1 dL_areParts_172 ?_
            refine lv_topi (fun v101 ev101 => ?_)
            have ev101 : v101 = T_sum 0 f (k + 1) := ev101.trans ((Int32.add_zero _).trans (if_neg (fun q => absurd (ko.symm.trans q) (by decide))).symm)
            subst ev101
            refine lv_istore_n (lv' := [(3, .int (T_sum 0 f (k + 1))), (2, .int (T_least f (k + 1))), (8, .int (1)), (7, .int (valAt f k)), (6, .int (2)), (5, .int (nI k)), (4, .int (T_sum 1 f k)), (1, .int (nI n)), (0, .ref (ad 0))]) F.1 F.2.1 dL_areParts_173 rfl hl (by decide) rfl (fun ls hl => ?_)
            refine lv_iload F.1 F.2.1 dL_areParts_174 (lv_at hl 6 rfl) ?_
            refine lv_iload F.1 F.2.1 dL_areParts_176 (lv_at hl 4 rfl) ?_
            refine lv_iconst (v := 1) F.1 F.2.1 dL_areParts_178 (by decide) ?_
            refine lv_icmp_ne (tgt := 187) F.1 F.2.1 dL_areParts_179 (by decide) (fun c102 => ?_) (fun c102 => False.elim (by revert c102; decide))
            refine lv_iconst (v := 0) F.1 F.2.1 dL_areParts_187 (by decide) ?_
            refine lv_iadd F.1 F.2.1 dL_areParts_188 ?_
            refine lv_topi (fun v103 ev103 => ?_)
            have ev103 : v103 = T_sum 1 f (k + 1) := ev103.trans ((Int32.add_zero _).trans (if_neg (fun q => absurd (ko.symm.trans q) (by decide))).symm)
            subst ev103
            refine lv_istore (lv' := [(4, .int (T_sum 1 f (k + 1))), (3, .int (T_sum 0 f (k + 1))), (2, .int (T_least f (k + 1))), (8, .int (1)), (7, .int (valAt f k)), (6, .int (2)), (5, .int (nI k)), (1, .int (nI n)), (0, .ref (ad 0))]) F.1 F.2.1 dL_areParts_189 hl (by decide) rfl (fun ls hl => ?_)
            refine lv_iinc (v := (nI k) + 1) (lv' := [(5, .int ((nI k) + 1)), (4, .int (T_sum 1 f (k + 1))), (3, .int (T_sum 0 f (k + 1))), (2, .int (T_least f (k + 1))), (8, .int (1)), (7, .int (valAt f k)), (6, .int (2)), (1, .int (nI n)), (0, .ref (ad 0))]) F.1 F.2.1 dL_areParts_191 hl (k := 6) rfl rfl (by decide) rfl (fun ls hl => ?_)
            refine lv_goto (tgt := 16) F.1 F.2.1 dL_areParts_194 (by decide) ?_
            exact ih _ (by omega) _ _ _ _ ⟨k + 1, rfl, hkn, rfl, (by rw [nI_succ]; exact lv_sub hl [0, 1, 2, 3, 7, 8] rfl)⟩ hP hS
      · refine lv_iload F.1 F.2.1 dL_areParts_91 (lv_at hl 1 rfl) ?_
        refine lv_iconst (v := 2) F.1 F.2.1 dL_areParts_93 (by decide) ?_
        refine lv_icmp_ne (tgt := 127) F.1 F.2.1 dL_areParts_94 (by decide) (fun c104 => False.elim (by revert c104; decide)) (fun c104 => ?_)
        refine lv_aload_n F.1 F.2.1 dL_areParts_97 rfl (lv_at hl 7 rfl) ?_
        refine lv_iload F.1 F.2.1 dL_areParts_98 (lv_at hl 2 rfl) ?_
        refine lv_iconst (v := 4) F.1 F.2.1 dL_areParts_100 (by decide) ?_
        refine w_calli F hP hS (k_of l D Y ad N hI hN _ hL (nI k) 4) (cwVm 2 F.2.2.2.2.1 (fun _ h => h) mw_445 mw_717 mw_443 mw_444 mw_2 rfl rfl ydX7_of ⟨by decide, by decide⟩) (by omega) (ls_at hL) rfl rfl hl.1 rfl (Nat.le_of_ble_eq_true rfl) dL_areParts_101 ⟨Nat.zero_le _, Nat.zero_le _⟩ (fun r5 C2 H locs hq hP hS => ?_)
        obtain ⟨hw5, hr5⟩ := hq; rw [hw5] at hP
        have hr5 := hr5.trans ((of_4 h4 hkn hn).trans z4)
        subst hr5
        refine lv_if_eq (tgt := 113) F.1 F.2.1 dL_areParts_104 (by decide) (fun c105 => ?_) (fun c105 => False.elim (by revert c105; decide))
        refine lv_aload_n F.1 F.2.1 dL_areParts_113 rfl (lv_at hl 7 rfl) ?_
        refine lv_iload F.1 F.2.1 dL_areParts_114 (lv_at hl 2 rfl) ?_
        refine lv_iconst (v := 2) F.1 F.2.1 dL_areParts_116 (by decide) ?_
        refine w_calli F hP hS (k_of l D Y ad N hI hN _ hL (nI k) 2) (cwVm 2 F.2.2.2.2.1 (fun _ h => h) mw_445 mw_717 mw_443 mw_444 mw_2 rfl rfl ydX7_of ⟨by decide, by decide⟩) (by omega) (ls_at hL) rfl rfl hl.1 rfl (Nat.le_of_ble_eq_true rfl) dL_areParts_117 ⟨Nat.zero_le _, Nat.zero_le _⟩ (fun r6 C2 H locs hq hP hS => ?_)
        obtain ⟨hw6, hr6⟩ := hq; rw [hw6] at hP
        have hr6 := hr6.trans (of_2 h4 hkn hn)
        subst hr6
        refine lv_if_lt (tgt := 127) F.1 F.2.1 dL_areParts_120 (by decide) (fun c106 => False.elim (il_lt o5.1 c106)) (fun c106 => ?_)
        refine lv_iconst (v := 1) F.1 F.2.1 dL_areParts_123 (by decide) ?_
        refine lv_goto (tgt := 128) F.1 F.2.1 dL_areParts_124 (by decide) ?_
        refine lv_istore (lv' := [(8, .int (1)), (7, .int (valAt f k)), (6, .int (2)), (5, .int (nI k)), (4, .int (T_sum 1 f k)), (3, .int (T_sum 0 f k)), (2, .int (T_least f k)), (1, .int (nI n)), (0, .ref (ad 0))]) F.1 F.2.1 dL_areParts_128 hl (by decide) rfl (fun ls hl => ?_)
        refine lv_iload F.1 F.2.1 dL_areParts_130 (lv_at hl 0 rfl) ?_
        refine lv_if_ne (tgt := 137) F.1 F.2.1 dL_areParts_132 (by decide) (fun c107 => ?_) (fun c107 => False.elim (by revert c107; decide))
        refine lv_iload F.1 F.2.1 dL_areParts_137 (lv_at hl 2 rfl) ?_
        refine lv_iconst (v := 2) F.1 F.2.1 dL_areParts_139 (by decide) ?_
        refine lv_icmp_ne (tgt := 158) F.1 F.2.1 dL_areParts_140 (by decide) (fun c108 => False.elim (by revert c108; decide)) (fun c108 => ?_)
        refine lv_iload_n F.1 F.2.1 dL_areParts_143 rfl (lv_at hl 6 rfl) ?_
        refine lv_if_eq (tgt := 153) F.1 F.2.1 dL_areParts_144 (by decide) (fun c109 => ?_) (fun c109 => ?_)
        · refine lv_iload F.1 F.2.1 dL_areParts_153 (lv_at hl 1 rfl) ?_
          refine lv_goto (tgt := 159) F.1 F.2.1 dL_areParts_155 (by decide) ?_
          refine lv_topi (fun v110 ev110 => ?_)
          have ev110 : v110 = T_least f (k + 1) := ev110.trans (if_pos ⟨ko, Or.inl c109⟩).symm
          subst ev110
          refine lv_istore_n (lv' := [(2, .int (T_least f (k + 1))), (8, .int (1)), (7, .int (valAt f k)), (6, .int (2)), (5, .int (nI k)), (4, .int (T_sum 1 f k)), (3, .int (T_sum 0 f k)), (1, .int (nI n)), (0, .ref (ad 0))]) F.1 F.2.1 dL_areParts_159 rfl hl (by decide) rfl (fun ls hl => ?_)
          refine lv_iload_n F.1 F.2.1 dL_areParts_160 rfl (lv_at hl 6 rfl) ?_
          refine lv_iload F.1 F.2.1 dL_areParts_161 (lv_at hl 3 rfl) ?_
          refine lv_if_ne (tgt := 171) F.1 F.2.1 dL_areParts_163 (by decide) (fun c111 => ?_) (fun c111 => False.elim (by revert c111; decide))
          refine lv_iconst (v := 0) F.1 F.2.1 dL_areParts_171 (by decide) ?_
          refine lv_iadd F.1 F.2.1 dL_areParts_172 ?_
          refine lv_topi (fun v112 ev112 => ?_)
          have ev112 : v112 = T_sum 0 f (k + 1) := ev112.trans ((Int32.add_zero _).trans (if_neg (fun q => absurd (ko.symm.trans q) (by decide))).symm)
          subst ev112
          refine lv_istore_n (lv' := [(3, .int (T_sum 0 f (k + 1))), (2, .int (T_least f (k + 1))), (8, .int (1)), (7, .int (valAt f k)), (6, .int (2)), (5, .int (nI k)), (4, .int (T_sum 1 f k)), (1, .int (nI n)), (0, .ref (ad 0))]) F.1 F.2.1 dL_areParts_173 rfl hl (by decide) rfl (fun ls hl => ?_)
          refine lv_iload F.1 F.2.1 dL_areParts_174 (lv_at hl 6 rfl) ?_
          refine lv_iload F.1 F.2.1 dL_areParts_176 (lv_at hl 4 rfl) ?_
          refine lv_iconst (v := 1) F.1 F.2.1 dL_areParts_178 (by decide) ?_
          refine lv_icmp_ne (tgt := 187) F.1 F.2.1 dL_areParts_179 (by decide) (fun c113 => ?_) (fun c113 => False.elim (by revert c113; decide))
          refine lv_iconst (v := 0) F.1 F.2.1 dL_areParts_187 (by decide) ?_
          refine lv_iadd F.1 F.2.1 dL_areParts_188 ?_
          refine lv_topi (fun v114 ev114 => ?_)
          have ev114 : v114 = T_sum 1 f (k + 1) := ev114.trans ((Int32.add_zero _).trans (if_neg (fun q => absurd (ko.symm.trans q) (by decide))).symm)
          subst ev114
          refine lv_istore (lv' := [(4, .int (T_sum 1 f (k + 1))), (3, .int (T_sum 0 f (k + 1))), (2, .int (T_least f (k + 1))), (8, .int (1)), (7, .int (valAt f k)), (6, .int (2)), (5, .int (nI k)), (1, .int (nI n)), (0, .ref (ad 0))]) F.1 F.2.1 dL_areParts_189 hl (by decide) rfl (fun ls hl => ?_)
          refine lv_iinc (v := (nI k) + 1) (lv' := [(5, .int ((nI k) + 1)), (4, .int (T_sum 1 f (k + 1))), (3, .int (T_sum 0 f (k + 1))), (2, .int (T_least f (k + 1))), (8, .int (1)), (7, .int (valAt f k)), (6, .int (2)), (1, .int (nI n)), (0, .ref (ad 0))]) F.1 F.2.1 dL_areParts_191 hl (k := 6) rfl rfl (by decide) rfl (fun ls hl => ?_)
          refine lv_goto (tgt := 16) F.1 F.2.1 dL_areParts_194 (by decide) ?_
          exact ih _ (by omega) _ _ _ _ ⟨k + 1, rfl, hkn, rfl, (by rw [nI_succ]; exact lv_sub hl [0, 1, 2, 3, 7, 8] rfl)⟩ hP hS
        · refine lv_iload F.1 F.2.1 dL_areParts_147 (lv_at hl 1 rfl) ?_
          refine lv_iload_n F.1 F.2.1 dL_areParts_149 rfl (lv_at hl 6 rfl) ?_
          refine lv_icmp_ge (tgt := 158) F.1 F.2.1 dL_areParts_150 (by decide) (fun c115 => ?_) (fun c115 => ?_)
          · refine lv_iload_n F.1 F.2.1 dL_areParts_158 rfl (lv_at hl 6 rfl) ?_
            refine lv_topi (fun v116 ev116 => ?_)
            have ev116 : v116 = T_least f (k + 1) := ev116.trans (if_neg (fun q => q.2.elim c109 (i_nlt c115))).symm
            subst ev116
            refine lv_istore_n (lv' := [(2, .int (T_least f (k + 1))), (8, .int (1)), (7, .int (valAt f k)), (6, .int (2)), (5, .int (nI k)), (4, .int (T_sum 1 f k)), (3, .int (T_sum 0 f k)), (1, .int (nI n)), (0, .ref (ad 0))]) F.1 F.2.1 dL_areParts_159 rfl hl (by decide) rfl (fun ls hl => ?_)
            refine lv_iload_n F.1 F.2.1 dL_areParts_160 rfl (lv_at hl 6 rfl) ?_
            refine lv_iload F.1 F.2.1 dL_areParts_161 (lv_at hl 3 rfl) ?_
            refine lv_if_ne (tgt := 171) F.1 F.2.1 dL_areParts_163 (by decide) (fun c117 => ?_) (fun c117 => False.elim (by revert c117; decide))
            refine lv_iconst (v := 0) F.1 F.2.1 dL_areParts_171 (by decide) ?_
            refine lv_iadd F.1 F.2.1 dL_areParts_172 ?_
            refine lv_topi (fun v118 ev118 => ?_)
            have ev118 : v118 = T_sum 0 f (k + 1) := ev118.trans ((Int32.add_zero _).trans (if_neg (fun q => absurd (ko.symm.trans q) (by decide))).symm)
            subst ev118
            refine lv_istore_n (lv' := [(3, .int (T_sum 0 f (k + 1))), (2, .int (T_least f (k + 1))), (8, .int (1)), (7, .int (valAt f k)), (6, .int (2)), (5, .int (nI k)), (4, .int (T_sum 1 f k)), (1, .int (nI n)), (0, .ref (ad 0))]) F.1 F.2.1 dL_areParts_173 rfl hl (by decide) rfl (fun ls hl => ?_)
            refine lv_iload F.1 F.2.1 dL_areParts_174 (lv_at hl 6 rfl) ?_
            refine lv_iload F.1 F.2.1 dL_areParts_176 (lv_at hl 4 rfl) ?_
            refine lv_iconst (v := 1) F.1 F.2.1 dL_areParts_178 (by decide) ?_
            refine lv_icmp_ne (tgt := 187) F.1 F.2.1 dL_areParts_179 (by decide) (fun c119 => ?_) (fun c119 => False.elim (by revert c119; decide))
            refine lv_iconst (v := 0) F.1 F.2.1 dL_areParts_187 (by decide) ?_
            refine lv_iadd F.1 F.2.1 dL_areParts_188 ?_
            refine lv_topi (fun v120 ev120 => ?_)
            have ev120 : v120 = T_sum 1 f (k + 1) := ev120.trans ((Int32.add_zero _).trans (if_neg (fun q => absurd (ko.symm.trans q) (by decide))).symm)
            subst ev120
            refine lv_istore (lv' := [(4, .int (T_sum 1 f (k + 1))), (3, .int (T_sum 0 f (k + 1))), (2, .int (T_least f (k + 1))), (8, .int (1)), (7, .int (valAt f k)), (6, .int (2)), (5, .int (nI k)), (1, .int (nI n)), (0, .ref (ad 0))]) F.1 F.2.1 dL_areParts_189 hl (by decide) rfl (fun ls hl => ?_)
            refine lv_iinc (v := (nI k) + 1) (lv' := [(5, .int ((nI k) + 1)), (4, .int (T_sum 1 f (k + 1))), (3, .int (T_sum 0 f (k + 1))), (2, .int (T_least f (k + 1))), (8, .int (1)), (7, .int (valAt f k)), (6, .int (2)), (1, .int (nI n)), (0, .ref (ad 0))]) F.1 F.2.1 dL_areParts_191 hl (k := 6) rfl rfl (by decide) rfl (fun ls hl => ?_)
            refine lv_goto (tgt := 16) F.1 F.2.1 dL_areParts_194 (by decide) ?_
            exact ih _ (by omega) _ _ _ _ ⟨k + 1, rfl, hkn, rfl, (by rw [nI_succ]; exact lv_sub hl [0, 1, 2, 3, 7, 8] rfl)⟩ hP hS
          · refine lv_iload F.1 F.2.1 dL_areParts_153 (lv_at hl 1 rfl) ?_
            refine lv_goto (tgt := 159) F.1 F.2.1 dL_areParts_155 (by decide) ?_
            refine lv_topi (fun v121 ev121 => ?_)
            have ev121 : v121 = T_least f (k + 1) := ev121.trans (if_pos ⟨ko, Or.inr (i_lt c115)⟩).symm
            subst ev121
            refine lv_istore_n (lv' := [(2, .int (T_least f (k + 1))), (8, .int (1)), (7, .int (valAt f k)), (6, .int (2)), (5, .int (nI k)), (4, .int (T_sum 1 f k)), (3, .int (T_sum 0 f k)), (1, .int (nI n)), (0, .ref (ad 0))]) F.1 F.2.1 dL_areParts_159 rfl hl (by decide) rfl (fun ls hl => ?_)
            refine lv_iload_n F.1 F.2.1 dL_areParts_160 rfl (lv_at hl 6 rfl) ?_
            refine lv_iload F.1 F.2.1 dL_areParts_161 (lv_at hl 3 rfl) ?_
            refine lv_if_ne (tgt := 171) F.1 F.2.1 dL_areParts_163 (by decide) (fun c122 => ?_) (fun c122 => False.elim (by revert c122; decide))
            refine lv_iconst (v := 0) F.1 F.2.1 dL_areParts_171 (by decide) ?_
            refine lv_iadd F.1 F.2.1 dL_areParts_172 ?_
            refine lv_topi (fun v123 ev123 => ?_)
            have ev123 : v123 = T_sum 0 f (k + 1) := ev123.trans ((Int32.add_zero _).trans (if_neg (fun q => absurd (ko.symm.trans q) (by decide))).symm)
            subst ev123
            refine lv_istore_n (lv' := [(3, .int (T_sum 0 f (k + 1))), (2, .int (T_least f (k + 1))), (8, .int (1)), (7, .int (valAt f k)), (6, .int (2)), (5, .int (nI k)), (4, .int (T_sum 1 f k)), (1, .int (nI n)), (0, .ref (ad 0))]) F.1 F.2.1 dL_areParts_173 rfl hl (by decide) rfl (fun ls hl => ?_)
            refine lv_iload F.1 F.2.1 dL_areParts_174 (lv_at hl 6 rfl) ?_
            refine lv_iload F.1 F.2.1 dL_areParts_176 (lv_at hl 4 rfl) ?_
            refine lv_iconst (v := 1) F.1 F.2.1 dL_areParts_178 (by decide) ?_
            refine lv_icmp_ne (tgt := 187) F.1 F.2.1 dL_areParts_179 (by decide) (fun c124 => ?_) (fun c124 => False.elim (by revert c124; decide))
            refine lv_iconst (v := 0) F.1 F.2.1 dL_areParts_187 (by decide) ?_
            refine lv_iadd F.1 F.2.1 dL_areParts_188 ?_
            refine lv_topi (fun v125 ev125 => ?_)
            have ev125 : v125 = T_sum 1 f (k + 1) := ev125.trans ((Int32.add_zero _).trans (if_neg (fun q => absurd (ko.symm.trans q) (by decide))).symm)
            subst ev125
            refine lv_istore (lv' := [(4, .int (T_sum 1 f (k + 1))), (3, .int (T_sum 0 f (k + 1))), (2, .int (T_least f (k + 1))), (8, .int (1)), (7, .int (valAt f k)), (6, .int (2)), (5, .int (nI k)), (1, .int (nI n)), (0, .ref (ad 0))]) F.1 F.2.1 dL_areParts_189 hl (by decide) rfl (fun ls hl => ?_)
            refine lv_iinc (v := (nI k) + 1) (lv' := [(5, .int ((nI k) + 1)), (4, .int (T_sum 1 f (k + 1))), (3, .int (T_sum 0 f (k + 1))), (2, .int (T_least f (k + 1))), (8, .int (1)), (7, .int (valAt f k)), (6, .int (2)), (1, .int (nI n)), (0, .ref (ad 0))]) F.1 F.2.1 dL_areParts_191 hl (k := 6) rfl rfl (by decide) rfl (fun ls hl => ?_)
            refine lv_goto (tgt := 16) F.1 F.2.1 dL_areParts_194 (by decide) ?_
            exact ih _ (by omega) _ _ _ _ ⟨k + 1, rfl, hkn, rfl, (by rw [nI_succ]; exact lv_sub hl [0, 1, 2, 3, 7, 8] rfl)⟩ hP hS
