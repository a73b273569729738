/-! p25: does, from its start -/
set_option maxRecDepth 20000 in
set_option maxHeartbeats 4000000 in
/-- one order of the script -/
theorem c_L_does (l : Launch) (D : va_G) (Y : Nat → ClassId) (ad : Nat → Nat) (N : Nat) (hI : wI ad N) (C : Nat → va_E) (hN : 171 ≤ N) {f : Nat → Int32} {sl : Nat → Nat → Int32} {sv : Nat → Int32} (hL : kLS Y ad C f sl sv) {hv : Nat → Int32} (hH : C 170 = .inl (Y 0, 8, .inl hv)) {B : Int} (hJ : J B f) (hB0 : 0 ≤ B) (hB : B + 7000 ≤ 900000000) (v w : Int32) : Met l yL_does (wm yL_does cL_does 20 (some .boolean)) { frames := 9, cells := 0, slots := 0, locals := 213 } (wPc D Y ad N [.ref (ad 0), .ref (ad 170), .int (v), .int (w)] C) (wQi D ad N (fun r C' => r = 1 ∧ ∃ (f' : Nat → Int32) (sl' : Nat → Nat → Int32) (sv' : Nat → Int32), kLT Y ad C' f' sl' sv' ∧ J (B + 100) f')) 0 0 (wA ad N) := by
  obtain ⟨n, h4, hn, e4n⟩ := n_at hJ.1
  have hz5 : z01 (f 5) := hJ.1.2.1
  refine wMet RL rfl (by decide +kernel) (Nat.le_of_ble_eq_true rfl) (lv := [(0, .ref (ad 0)), (1, .ref (ad 170)), (2, .int (v)), (3, .int (w))]) rfl ?_
  intro p e s m below meth c ls F hr hlocks hP hl
  have hS : va_S (wA ad N) s.heap s.heap [] := va_S.rf
  refine lv_aload_n F.1 F.2.1 dL_does_0 rfl (lv_at hl 0 rfl) ?_
  refine lv_iconst (v := 0) F.1 F.2.1 dL_does_1 (by decide) ?_
  refine w_calli F hP hS (k_count l D Y ad N hI hN _ hL 0 (by decide) hJ.1) (cwVm 1 F.2.2.2.2.1 (fun _ h => h) mw_482 mw_716 mw_480 mw_481 mw_2 rfl rfl ydX7_count ⟨by decide, by decide⟩) (by omega) (ls_at hL) rfl rfl hl.1 rfl (Nat.le_of_ble_eq_true rfl) dL_does_2 ⟨Nat.zero_le _, Nat.zero_le _⟩ (fun r1 C2 H locs hq hP hS => ?_)
  obtain ⟨hw1, hr1⟩ := hq; rw [hw1] at hP
  have hr1 := hr1.trans (cn_0.trans h4)
  subst hr1
  refine lv_istore (lv' := [(4, .int (nI n)), (0, .ref (ad 0)), (1, .ref (ad 170)), (2, .int (v)), (3, .int (w))]) F.1 F.2.1 dL_does_5 hl (by decide) rfl (fun ls hl => ?_)
  by_cases hro : f 5 = 1 ∧ f 11 = 0
  · obtain ⟨h5, h11⟩ := hro
    refine lv_aload_n F.1 F.2.1 dL_does_7 rfl (lv_at hl 1 rfl) ?_
    refine lv_iconst (v := 5) F.1 F.2.1 dL_does_8 (by decide) ?_
    refine w_calli F hP hS (k_ofHoop l D Y ad N hI hN _ hL 5) (cwVm 1 F.2.2.2.2.1 (fun _ h => h) mw_454 mw_719 mw_452 mw_453 mw_2 rfl rfl ydX7_ofHoop ⟨by decide, by decide⟩) (by omega) (ls_at hL) rfl rfl hl.1 rfl (Nat.le_of_ble_eq_true rfl) dL_does_9 ⟨Nat.zero_le _, Nat.zero_le _⟩ (fun r2 C2 H locs hq hP hS => ?_)
    obtain ⟨hw2, hr2⟩ := hq; rw [hw2] at hP
    have hr2 := hr2.trans ((oh_5 h5).trans h11)
    subst hr2
    refine lv_if_ne (tgt := 19) F.1 F.2.1 dL_does_12 (by decide) (fun c1 => False.elim (by revert c1; decide)) (fun c1 => ?_)
    refine lv_iconst (v := 1) F.1 F.2.1 dL_does_15 (by decide) ?_
    refine lv_goto (tgt := 20) F.1 F.2.1 dL_does_16 (by decide) ?_
    refine lv_istore (lv' := [(5, .int (1)), (4, .int (nI n)), (0, .ref (ad 0)), (1, .ref (ad 170)), (2, .int (v)), (3, .int (w))]) F.1 F.2.1 dL_does_20 hl (by decide) rfl (fun ls hl => ?_)
    refine lv_iload_n F.1 F.2.1 dL_does_22 rfl (lv_at hl 4 rfl) ?_
    refine lv_bipush (v := 20) F.1 F.2.1 dL_does_23 (by decide) ?_
    refine w_calls F hP hS (c_L_low l D Y ad N hI _ v 20 (by omega) (by omega)) (cwSm 2 F.2.2.2.2.1 (fun _ h => h) mw_731 mw_729 mw_730 mw_714 rfl rfl ydL_low ⟨by decide, by decide⟩) rfl hl.1 rfl (Nat.le_of_ble_eq_true rfl) dL_does_25 ⟨Nat.zero_le _, Nat.zero_le _⟩ (fun r3 C2 H locs hq hP hS => ?_)
    obtain ⟨hw3, j3, hj3, hr3⟩ := hq; rw [hw3] at hP; subst hr3
    by_cases k2 : nI j3 = 0
    · refine lv_tableIn (off := 80) (tgt := 108) F.1 F.2.1 dL_does_28 (by rw [k2]; decide) (by rw [k2]; decide) (by rw [k2]; rfl) (by decide) ?_
      exact does_108 hI hN F hr hlocks hP hS hL hH hJ hB0 hB h4 hn (lv_sub hl [0, 1, 5, 4, 3, 2] rfl)
    · by_cases k3 : nI j3 = 1
      · refine lv_tableIn (off := 80) (tgt := 108) F.1 F.2.1 dL_does_28 (by rw [k3]; decide) (by rw [k3]; decide) (by rw [k3]; rfl) (by decide) ?_
        exact does_108 hI hN F hr hlocks hP hS hL hH hJ hB0 hB h4 hn (lv_sub hl [0, 1, 5, 4, 3, 2] rfl)
      · by_cases k4 : nI j3 = 2
        · refine lv_tableIn (off := 80) (tgt := 108) F.1 F.2.1 dL_does_28 (by rw [k4]; decide) (by rw [k4]; decide) (by rw [k4]; rfl) (by decide) ?_
          exact does_108 hI hN F hr hlocks hP hS hL hH hJ hB0 hB h4 hn (lv_sub hl [0, 1, 5, 4, 3, 2] rfl)
        · by_cases k5 : nI j3 = 3
          · refine lv_tableIn (off := 80) (tgt := 108) F.1 F.2.1 dL_does_28 (by rw [k5]; decide) (by rw [k5]; decide) (by rw [k5]; rfl) (by decide) ?_
            exact does_108 hI hN F hr hlocks hP hS hL hH hJ hB0 hB h4 hn (lv_sub hl [0, 1, 5, 4, 3, 2] rfl)
          · by_cases k6 : nI j3 = 4
            · refine lv_tableIn (off := 235) (tgt := 263) F.1 F.2.1 dL_does_28 (by rw [k6]; decide) (by rw [k6]; decide) (by rw [k6]; rfl) (by decide) ?_
              exact does_263 hI hN F hr hlocks hP hS hL hH hJ hB0 hB h4 hn (lv_sub hl [0, 1, 5, 4, 3, 2] rfl)
            · by_cases k7 : nI j3 = 5
              · refine lv_tableIn (off := 299) (tgt := 327) F.1 F.2.1 dL_does_28 (by rw [k7]; decide) (by rw [k7]; decide) (by rw [k7]; rfl) (by decide) ?_
                exact does_327 hI hN F hr hlocks hP hS hL hH hJ hB0 hB h4 hn (lv_sub hl [0, 1, 5, 4, 3, 2] rfl)
              · by_cases k8 : nI j3 = 6
                · refine lv_tableIn (off := 299) (tgt := 327) F.1 F.2.1 dL_does_28 (by rw [k8]; decide) (by rw [k8]; decide) (by rw [k8]; rfl) (by decide) ?_
                  exact does_327 hI hN F hr hlocks hP hS hL hH hJ hB0 hB h4 hn (lv_sub hl [0, 1, 5, 4, 3, 2] rfl)
                · by_cases k9 : nI j3 = 7
                  · refine lv_tableIn (off := 299) (tgt := 327) F.1 F.2.1 dL_does_28 (by rw [k9]; decide) (by rw [k9]; decide) (by rw [k9]; rfl) (by decide) ?_
                    exact does_327 hI hN F hr hlocks hP hS hL hH hJ hB0 hB h4 hn (lv_sub hl [0, 1, 5, 4, 3, 2] rfl)
                  · by_cases k10 : nI j3 = 8
                    · refine lv_tableIn (off := 406) (tgt := 434) F.1 F.2.1 dL_does_28 (by rw [k10]; decide) (by rw [k10]; decide) (by rw [k10]; rfl) (by decide) ?_
                      exact does_434_r hI hN F hr hlocks hP hS hL hH hJ hB0 hB h4 hn h5 h11 (lv_sub hl [0, 1, 5, 4, 3, 2] rfl)
                    · by_cases k11 : nI j3 = 9
                      · refine lv_tableIn (off := 452) (tgt := 480) F.1 F.2.1 dL_does_28 (by rw [k11]; decide) (by rw [k11]; decide) (by rw [k11]; rfl) (by decide) ?_
                        exact does_480_r hI hN F hr hlocks hP hS hL hH hJ hB0 hB h4 hn h5 h11 (lv_sub hl [0, 1, 5, 4, 3, 2] rfl)
                      · by_cases k12 : nI j3 = 10
                        · refine lv_tableIn (off := 452) (tgt := 480) F.1 F.2.1 dL_does_28 (by rw [k12]; decide) (by rw [k12]; decide) (by rw [k12]; rfl) (by decide) ?_
                          exact does_480_r hI hN F hr hlocks hP hS hL hH hJ hB0 hB h4 hn h5 h11 (lv_sub hl [0, 1, 5, 4, 3, 2] rfl)
                        · by_cases k13 : nI j3 = 11
                          · refine lv_tableIn (off := 545) (tgt := 573) F.1 F.2.1 dL_does_28 (by rw [k13]; decide) (by rw [k13]; decide) (by rw [k13]; rfl) (by decide) ?_
                            exact does_573 hI hN F hr hlocks hP hS hL hH hJ hB0 hB h4 hn (lv_sub hl [0, 1, 5, 4, 3, 2] rfl)
                          · by_cases k14 : nI j3 = 12
                            · refine lv_tableIn (off := 651) (tgt := 679) F.1 F.2.1 dL_does_28 (by rw [k14]; decide) (by rw [k14]; decide) (by rw [k14]; rfl) (by decide) ?_
                              exact does_679_r hI hN F hr hlocks hP hS hL hH hJ hB0 hB h4 hn h5 h11 (lv_sub hl [0, 1, 5, 4, 3, 2] rfl)
                            · by_cases k15 : nI j3 = 13
                              · refine lv_tableIn (off := 672) (tgt := 700) F.1 F.2.1 dL_does_28 (by rw [k15]; decide) (by rw [k15]; decide) (by rw [k15]; rfl) (by decide) ?_
                                exact does_700 hI hN F hr hlocks hP hS hL hH hJ hB0 hB h4 hn (lv_sub hl [0, 1, 5, 4, 3, 2] rfl)
                              · by_cases k16 : nI j3 = 14
                                · refine lv_tableIn (off := 702) (tgt := 730) F.1 F.2.1 dL_does_28 (by rw [k16]; decide) (by rw [k16]; decide) (by rw [k16]; rfl) (by decide) ?_
                                  exact does_730_r hI hN F hr hlocks hP hS hL hH hJ hB0 hB h4 hn h5 h11 (lv_sub hl [0, 1, 5, 4, 3, 2] rfl)
                                · by_cases k17 : nI j3 = 15
                                  · refine lv_tableIn (off := 702) (tgt := 730) F.1 F.2.1 dL_does_28 (by rw [k17]; decide) (by rw [k17]; decide) (by rw [k17]; rfl) (by decide) ?_
                                    exact does_730_r hI hN F hr hlocks hP hS hL hH hJ hB0 hB h4 hn h5 h11 (lv_sub hl [0, 1, 5, 4, 3, 2] rfl)
                                  · refine lv_tableOut (tgt := 769) F.1 F.2.1 dL_does_28 (by have := lv_neT k2 (a := 0) rfl; have := lv_neT k3 (a := 1) rfl; have := lv_neT k4 (a := 2) rfl; have := lv_neT k5 (a := 3) rfl; have := lv_neT k6 (a := 4) rfl; have := lv_neT k7 (a := 5) rfl; have := lv_neT k8 (a := 6) rfl; have := lv_neT k9 (a := 7) rfl; have := lv_neT k10 (a := 8) rfl; have := lv_neT k11 (a := 9) rfl; have := lv_neT k12 (a := 10) rfl; have := lv_neT k13 (a := 11) rfl; have := lv_neT k14 (a := 12) rfl; have := lv_neT k15 (a := 13) rfl; have := lv_neT k16 (a := 14) rfl; have := lv_neT k17 (a := 15) rfl; omega) (by decide) ?_
                                    exact does_769_r hI hN F hr hlocks hP hS hL hH hJ hB0 hB h4 hn h5 h11 (lv_sub hl [0, 1, 5, 4, 3, 2] rfl)
  · have hno := hro
    refine lv_aload_n F.1 F.2.1 dL_does_7 rfl (lv_at hl 1 rfl) ?_
    refine lv_iconst (v := 5) F.1 F.2.1 dL_does_8 (by decide) ?_
    refine w_calli F hP hS (k_ofHoop l D Y ad N hI hN _ hL 5) (cwVm 1 F.2.2.2.2.1 (fun _ h => h) mw_454 mw_719 mw_452 mw_453 mw_2 rfl rfl ydX7_ofHoop ⟨by decide, by decide⟩) (by omega) (ls_at hL) rfl rfl hl.1 rfl (Nat.le_of_ble_eq_true rfl) dL_does_9 ⟨Nat.zero_le _, Nat.zero_le _⟩ (fun r2 C2 H locs hq hP hS => ?_)
    obtain ⟨hw2, hr2⟩ := hq; rw [hw2] at hP
    subst hr2
    refine lv_if_ne (tgt := 19) F.1 F.2.1 dL_does_12 (by decide) (fun c18 => ?_) (fun c18 => False.elim (oh_still hz5 hro c18))
    refine lv_iconst (v := 0) F.1 F.2.1 dL_does_19 (by decide) ?_
    refine lv_istore (lv' := [(5, .int (0)), (4, .int (nI n)), (0, .ref (ad 0)), (1, .ref (ad 170)), (2, .int (v)), (3, .int (w))]) F.1 F.2.1 dL_does_20 hl (by decide) rfl (fun ls hl => ?_)
    refine lv_iload_n F.1 F.2.1 dL_does_22 rfl (lv_at hl 4 rfl) ?_
    refine lv_bipush (v := 20) F.1 F.2.1 dL_does_23 (by decide) ?_
    refine w_calls F hP hS (c_L_low l D Y ad N hI _ v 20 (by omega) (by omega)) (cwSm 2 F.2.2.2.2.1 (fun _ h => h) mw_731 mw_729 mw_730 mw_714 rfl rfl ydL_low ⟨by decide, by decide⟩) rfl hl.1 rfl (Nat.le_of_ble_eq_true rfl) dL_does_25 ⟨Nat.zero_le _, Nat.zero_le _⟩ (fun r3 C2 H locs hq hP hS => ?_)
    obtain ⟨hw3, j3, hj3, hr3⟩ := hq; rw [hw3] at hP; subst hr3
    by_cases k19 : nI j3 = 0
    · refine lv_tableIn (off := 80) (tgt := 108) F.1 F.2.1 dL_does_28 (by rw [k19]; decide) (by rw [k19]; decide) (by rw [k19]; rfl) (by decide) ?_
      exact does_108 hI hN F hr hlocks hP hS hL hH hJ hB0 hB h4 hn (lv_sub hl [0, 1, 5, 4, 3, 2] rfl)
    · by_cases k20 : nI j3 = 1
      · refine lv_tableIn (off := 80) (tgt := 108) F.1 F.2.1 dL_does_28 (by rw [k20]; decide) (by rw [k20]; decide) (by rw [k20]; rfl) (by decide) ?_
        exact does_108 hI hN F hr hlocks hP hS hL hH hJ hB0 hB h4 hn (lv_sub hl [0, 1, 5, 4, 3, 2] rfl)
      · by_cases k21 : nI j3 = 2
        · refine lv_tableIn (off := 80) (tgt := 108) F.1 F.2.1 dL_does_28 (by rw [k21]; decide) (by rw [k21]; decide) (by rw [k21]; rfl) (by decide) ?_
          exact does_108 hI hN F hr hlocks hP hS hL hH hJ hB0 hB h4 hn (lv_sub hl [0, 1, 5, 4, 3, 2] rfl)
        · by_cases k22 : nI j3 = 3
          · refine lv_tableIn (off := 80) (tgt := 108) F.1 F.2.1 dL_does_28 (by rw [k22]; decide) (by rw [k22]; decide) (by rw [k22]; rfl) (by decide) ?_
            exact does_108 hI hN F hr hlocks hP hS hL hH hJ hB0 hB h4 hn (lv_sub hl [0, 1, 5, 4, 3, 2] rfl)
          · by_cases k23 : nI j3 = 4
            · refine lv_tableIn (off := 235) (tgt := 263) F.1 F.2.1 dL_does_28 (by rw [k23]; decide) (by rw [k23]; decide) (by rw [k23]; rfl) (by decide) ?_
              exact does_263 hI hN F hr hlocks hP hS hL hH hJ hB0 hB h4 hn (lv_sub hl [0, 1, 5, 4, 3, 2] rfl)
            · by_cases k24 : nI j3 = 5
              · refine lv_tableIn (off := 299) (tgt := 327) F.1 F.2.1 dL_does_28 (by rw [k24]; decide) (by rw [k24]; decide) (by rw [k24]; rfl) (by decide) ?_
                exact does_327 hI hN F hr hlocks hP hS hL hH hJ hB0 hB h4 hn (lv_sub hl [0, 1, 5, 4, 3, 2] rfl)
              · by_cases k25 : nI j3 = 6
                · refine lv_tableIn (off := 299) (tgt := 327) F.1 F.2.1 dL_does_28 (by rw [k25]; decide) (by rw [k25]; decide) (by rw [k25]; rfl) (by decide) ?_
                  exact does_327 hI hN F hr hlocks hP hS hL hH hJ hB0 hB h4 hn (lv_sub hl [0, 1, 5, 4, 3, 2] rfl)
                · by_cases k26 : nI j3 = 7
                  · refine lv_tableIn (off := 299) (tgt := 327) F.1 F.2.1 dL_does_28 (by rw [k26]; decide) (by rw [k26]; decide) (by rw [k26]; rfl) (by decide) ?_
                    exact does_327 hI hN F hr hlocks hP hS hL hH hJ hB0 hB h4 hn (lv_sub hl [0, 1, 5, 4, 3, 2] rfl)
                  · by_cases k27 : nI j3 = 8
                    · refine lv_tableIn (off := 406) (tgt := 434) F.1 F.2.1 dL_does_28 (by rw [k27]; decide) (by rw [k27]; decide) (by rw [k27]; rfl) (by decide) ?_
                      exact does_434_n hI hN F hr hlocks hP hS hL hH hJ hB0 hB h4 hn hno (lv_sub hl [0, 1, 5, 4, 3, 2] rfl)
                    · by_cases k28 : nI j3 = 9
                      · refine lv_tableIn (off := 452) (tgt := 480) F.1 F.2.1 dL_does_28 (by rw [k28]; decide) (by rw [k28]; decide) (by rw [k28]; rfl) (by decide) ?_
                        exact does_480_n hI hN F hr hlocks hP hS hL hH hJ hB0 hB h4 hn hno (lv_sub hl [0, 1, 5, 4, 3, 2] rfl)
                      · by_cases k29 : nI j3 = 10
                        · refine lv_tableIn (off := 452) (tgt := 480) F.1 F.2.1 dL_does_28 (by rw [k29]; decide) (by rw [k29]; decide) (by rw [k29]; rfl) (by decide) ?_
                          exact does_480_n hI hN F hr hlocks hP hS hL hH hJ hB0 hB h4 hn hno (lv_sub hl [0, 1, 5, 4, 3, 2] rfl)
                        · by_cases k30 : nI j3 = 11
                          · refine lv_tableIn (off := 545) (tgt := 573) F.1 F.2.1 dL_does_28 (by rw [k30]; decide) (by rw [k30]; decide) (by rw [k30]; rfl) (by decide) ?_
                            exact does_573 hI hN F hr hlocks hP hS hL hH hJ hB0 hB h4 hn (lv_sub hl [0, 1, 5, 4, 3, 2] rfl)
                          · by_cases k31 : nI j3 = 12
                            · refine lv_tableIn (off := 651) (tgt := 679) F.1 F.2.1 dL_does_28 (by rw [k31]; decide) (by rw [k31]; decide) (by rw [k31]; rfl) (by decide) ?_
                              exact does_679_n hI hN F hr hlocks hP hS hL hH hJ hB0 hB h4 hn hno (lv_sub hl [0, 1, 5, 4, 3, 2] rfl)
                            · by_cases k32 : nI j3 = 13
                              · refine lv_tableIn (off := 672) (tgt := 700) F.1 F.2.1 dL_does_28 (by rw [k32]; decide) (by rw [k32]; decide) (by rw [k32]; rfl) (by decide) ?_
                                exact does_700 hI hN F hr hlocks hP hS hL hH hJ hB0 hB h4 hn (lv_sub hl [0, 1, 5, 4, 3, 2] rfl)
                              · by_cases k33 : nI j3 = 14
                                · refine lv_tableIn (off := 702) (tgt := 730) F.1 F.2.1 dL_does_28 (by rw [k33]; decide) (by rw [k33]; decide) (by rw [k33]; rfl) (by decide) ?_
                                  exact does_730_n hI hN F hr hlocks hP hS hL hH hJ hB0 hB h4 hn hno (lv_sub hl [0, 1, 5, 4, 3, 2] rfl)
                                · by_cases k34 : nI j3 = 15
                                  · refine lv_tableIn (off := 702) (tgt := 730) F.1 F.2.1 dL_does_28 (by rw [k34]; decide) (by rw [k34]; decide) (by rw [k34]; rfl) (by decide) ?_
                                    exact does_730_n hI hN F hr hlocks hP hS hL hH hJ hB0 hB h4 hn hno (lv_sub hl [0, 1, 5, 4, 3, 2] rfl)
                                  · refine lv_tableOut (tgt := 769) F.1 F.2.1 dL_does_28 (by have := lv_neT k19 (a := 0) rfl; have := lv_neT k20 (a := 1) rfl; have := lv_neT k21 (a := 2) rfl; have := lv_neT k22 (a := 3) rfl; have := lv_neT k23 (a := 4) rfl; have := lv_neT k24 (a := 5) rfl; have := lv_neT k25 (a := 6) rfl; have := lv_neT k26 (a := 7) rfl; have := lv_neT k27 (a := 8) rfl; have := lv_neT k28 (a := 9) rfl; have := lv_neT k29 (a := 10) rfl; have := lv_neT k30 (a := 11) rfl; have := lv_neT k31 (a := 12) rfl; have := lv_neT k32 (a := 13) rfl; have := lv_neT k33 (a := 14) rfl; have := lv_neT k34 (a := 15) rfl; omega) (by decide) ?_
                                    exact does_769_n hI hN F hr hlocks hP hS hL hH hJ hB0 hB h4 hn hno (lv_sub hl [0, 1, 5, 4, 3, 2] rfl)
