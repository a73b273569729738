/-! p25: isSaved: taps, one by one more, until it passes -/
theorem ag_tapp {g g' : Nat → Int32} (x : Int32) (h : ag g g') : ag (T_tapp x g) (T_tap x g') := by
  have a : ag (T_tap x g) (T_tap x g') := by
    unfold T_tap
    rw [h.1 8 (by decide), h.1 3 (by decide), h.1 9 (by decide), h.1 12 (by decide)]
    exact ag_upd (ag_upd (ag_upd h (by decide)) (by decide)) (by decide)
  unfold T_tapp
  exact ag_trans (ag_of (fun q hq => upd_n (by omega))) a
theorem tap_8a {x : Int32} {g : Nat → Int32} (h : x = 0) : T_tapp x g 8 + 500 = g 8 + 500 + g 3 := by
  have e : T_tapp x g 8 = g 8 + (if x = 0 then g 3 else -g 3) := rfl
  rw [e, if_pos h, Int32.add_assoc, Int32.add_comm (g 3) 500, ← Int32.add_assoc]
theorem tap_8b {x : Int32} {g : Nat → Int32} (h : ¬ x = 0) : T_tapp x g 8 + 500 = g 8 + 500 + -g 3 := by
  have e : T_tapp x g 8 = g 8 + (if x = 0 then g 3 else -g 3) := rfl
  rw [e, if_neg h, Int32.add_assoc, Int32.add_comm (-g 3) 500, ← Int32.add_assoc]
theorem mn_tap {v : Int32} (h : 0 ≤ v.toInt ∧ v.toInt ≤ 99) : (v ≤ 96 → mn99 (v + 2) = v + 2) ∧ (¬ v ≤ 96 → mn99 (v + 2) = 99) := by
  have t : (2 : Int32).toInt = 2 := rfl
  have t6 : (96 : Int32).toInt = 96 := rfl
  have t9 : (99 : Int32).toInt = 99 := rfl
  have a := i_add (a := v) (b := 2) (by omega) (by omega)
  refine ⟨fun q => (mn_lo ?_).symm, fun q => if_neg ?_⟩
  · have q := Int32.le_iff_toInt_le.mp q
    rw [Int32.lt_iff_toInt_lt]
    omega
  · rw [Int32.le_iff_toInt_le] at q
    rw [Int32.lt_iff_toInt_lt]
    omega
theorem svl_next {x : Int32} {f : Nat → Int32} {i : Nat} (hi : i ≤ 20) : T_svl x f (21 - i) i = (if (T_roll 20 (T_taps x f i) 0).1 11 = 4 then nI i else T_svl x f (21 - (i + 1)) (i + 1)) := by
  rw [show 21 - i = 21 - (i + 1) + 1 by omega]
  rfl
set_option maxRecDepth 20000 in
set_option maxHeartbeats 4000000 in
/-- taps until it passes -/
theorem c_L_isSaved (l : Launch) (D : va_G) (Y : Nat → ClassId) (ad : Nat → Nat) (N : Nat) (hI : wI ad N) (C : Nat → va_E) (hN : 171 ≤ N) {f : Nat → Int32} {sl : Nat → Nat → Int32} {sv : Nat → Int32} (hL : kLS Y ad C f sl sv) {hv : Nat → Int32} (hH : C 170 = .inl (Y 0, 8, .inl hv)) {B : Int} (hJ : J B f) (hB0 : 0 ≤ B) (hB : B + 6000 ≤ 900000000) (h5 : f 5 = 1) (h11 : f 11 = 0) (x : Int32) (hx : x = 0 ∨ x = 1) : Met l yL_isSaved (wm yL_isSaved cL_isSaved 9 (some .boolean)) { frames := 7, cells := 0, slots := 0, locals := 154 } (wPc D Y ad N [.ref (ad 0), .int (x)] C) (wQi D ad N (fun r C' => r = 1 ∧ kLT Y ad C' f (va_up sl 1 f) (upd sv 1 1))) 0 0 (wA ad N) := by
  refine wMet RL rfl (by decide +kernel) (Nat.le_of_ble_eq_true rfl) (lv := [(0, .ref (ad 0)), (1, .int (x))]) rfl ?_
  intro p e s m below meth c ls F hr hlocks hP hl
  have hS : va_S (wA ad N) s.heap s.heap [] := va_S.rf
  refine lv_aload_n F.1 F.2.1 dL_isSaved_0 rfl (lv_at hl 0 rfl) ?_
  refine lv_iload_n F.1 F.2.1 dL_isSaved_1 rfl (lv_at hl 1 rfl) ?_
  refine w_calli F hP hS (k_saves l D Y ad N hI hN _ hL x hJ.1 (by omega) hB0) (cwVm 1 F.2.2.2.2.1 (fun _ h => h) mw_533 mw_741 mw_531 mw_532 mw_2 rfl rfl ydX7_saves ⟨by decide, by decide⟩) (by omega) (ls_at hL) rfl rfl hl.1 rfl (Nat.le_of_ble_eq_true rfl) dL_isSaved_2 ⟨Nat.zero_le _, Nat.zero_le _⟩ (fun r1 C1 H locs hq hP hS => ?_)
  obtain ⟨hr1, hL1, hz1⟩ := hq
  have hH1 := hz1.trans hH
  have hr1 := hr1.trans (show T_svs f x = T_svl x f 21 0 from if_pos (te_00 hx h5 h11))
  subst hr1
  refine lv_istore_n (lv' := [(2, .int (T_svl x f 21 0)), (0, .ref (ad 0)), (1, .int (x))]) F.1 F.2.1 dL_isSaved_5 rfl hl (by decide) rfl (fun ls hl => ?_)
  refine lv_bipush (v := (-6)) F.1 F.2.1 dL_isSaved_6 (by decide) ?_
  refine lv_istore_n (lv' := [(3, .int ((-6))), (2, .int (T_svl x f 21 0)), (0, .ref (ad 0)), (1, .int (x))]) F.1 F.2.1 dL_isSaved_8 rfl hl (by decide) rfl (fun ls hl => ?_)
  refine lv_aload_n F.1 F.2.1 dL_isSaved_9 rfl (lv_at hl 2 rfl) ?_
  refine lv_iconst (v := 1) F.1 F.2.1 dL_isSaved_10 (by decide) ?_
  refine w_calli F hP hS (k_save l D Y ad N hI hN _ hL1 1 (by decide)) (cwVm 1 F.2.2.2.2.1 (fun _ h => h) mw_690 mw_742 mw_688 mw_689 mw_2 rfl rfl ydX7_save ⟨by decide, by decide⟩) (by omega) (ls_at hL1) rfl rfl hl.1 rfl (Nat.le_of_ble_eq_true rfl) dL_isSaved_11 ⟨Nat.zero_le _, Nat.zero_le _⟩ (fun r2 C2 H locs hq hP hS => ?_)
  obtain ⟨hr2, hL2, hz2⟩ := hq
  have hH2 := hz2.trans hH1
  subst hr2
  refine lv_istore (lv' := [(4, .int (f 4)), (3, .int ((-6))), (2, .int (T_svl x f 21 0)), (0, .ref (ad 0)), (1, .int (x))]) F.1 F.2.1 dL_isSaved_14 hl (by decide) rfl (fun ls hl => ?_)
  refine lv_iconst (v := 0) F.1 F.2.1 dL_isSaved_16 (by decide) ?_
  refine lv_istore (lv' := [(5, .int (0)), (4, .int (f 4)), (3, .int ((-6))), (2, .int (T_svl x f 21 0)), (0, .ref (ad 0)), (1, .int (x))]) F.1 F.2.1 dL_isSaved_17 hl (by decide) rfl (fun ls hl => ?_)
  refine w_loop (Inv := fun j ls C' => ∃ (i : Nat) (g : Nat → Int32) (du : Int32), j = 22 - i ∧ i ≤ 21 ∧ ag g (T_taps x f i) ∧ okRow (B + 30 * i) g ∧ g 5 = 1 ∧ g 11 = 0 ∧ kLS Y ad C' g (va_up sl 1 f) (upd sv 1 1) ∧ C' 170 = .inl (Y 0, 8, .inl hv) ∧ ((du = -6 ∧ T_svl x f (21 - i) i = T_svl x f 21 0) ∨ (du = T_svl x f 21 0 ∧ 0 ≤ du)) ∧ lv_has ls 9 [(5, .int (nI i)), (4, .int (f 4)), (3, .int du), (2, .int (T_svl x f 21 0)), (1, .int x), (0, .ref (ad 0))]) ?_ 22 ⟨0, f, -6, rfl, Nat.zero_le _, ag_rfl, okRow_mono (by omega) hJ.1, h5, h11, hL2, hH2, Or.inl ⟨rfl, rfl⟩, lv_sub hl [0, 1, 2, 3, 5, 4] rfl⟩ hP hS
  intro j ih H locs ls K0 hInv hP hS
  obtain ⟨i, g, du, hj, hi, hag, hokg, hg5, hg11, hL, hH, hDD, hl⟩ := hInv
  refine lv_iload F.1 F.2.1 dL_isSaved_19 (lv_at hl 0 rfl) ?_
  refine lv_bipush (v := 20) F.1 F.2.1 dL_isSaved_21 (by decide) ?_
  rcases hDD with ⟨ed, hT⟩ | ⟨ed, hd0⟩
  · subst ed
    refine lv_icmp_gt (tgt := 127) F.1 F.2.1 dL_isSaved_23 (by decide) (fun c1 => ?_) (fun c1 => ?_)
    · have hi21 : 21 = i := by have q := (nI_ltI (a := 20) (b := i) (by decide) (by omega)).mp c1; omega
      subst hi21
      have hD : T_svl x f 21 0 = -6 := hT.symm
      refine lv_iload_n F.1 F.2.1 dL_isSaved_127 rfl (lv_at hl 3 rfl) ?_
      refine lv_iload_n F.1 F.2.1 dL_isSaved_128 rfl (lv_at hl 2 rfl) ?_
      refine lv_icmp_ne (tgt := 146) F.1 F.2.1 dL_isSaved_129 (by decide) (fun c2 => False.elim (c2 hD)) (fun c2 => ?_)
      refine lv_aload_n F.1 F.2.1 dL_isSaved_132 rfl (lv_at hl 5 rfl) ?_
      refine lv_iconst (v := 1) F.1 F.2.1 dL_isSaved_133 (by decide) ?_
      refine w_calli F hP hS (k_restore l D Y ad N hI hN _ hL 1 (by decide) (by rw [upd_s]; decide)) (cwVm 1 F.2.2.2.2.1 (fun _ h => h) mw_699 mw_744 mw_697 mw_698 mw_2 rfl rfl ydX7_restore ⟨by decide, by decide⟩) (by omega) (ls_at hL) rfl rfl hl.1 rfl (Nat.le_of_ble_eq_true rfl) dL_isSaved_134 ⟨Nat.zero_le _, Nat.zero_le _⟩ (fun r3 C3 H locs hq hP hS => ?_)
      obtain ⟨hr3, hL3, hz3⟩ := hq
      have hH3 := hz3.trans hH
      have hr3 := hr3.trans (show va_up sl 1 f 1 4 = f 4 by rw [va_up_self])
      subst hr3
      rw [va_up_self] at hL3
      refine lv_iload F.1 F.2.1 dL_isSaved_137 (lv_at hl 1 rfl) ?_
      refine lv_icmp_ne (tgt := 146) F.1 F.2.1 dL_isSaved_139 (by decide) (fun c3 => False.elim (c3 rfl)) (fun c3 => ?_)
      refine lv_iconst (v := 1) F.1 F.2.1 dL_isSaved_142 (by decide) ?_
      refine lv_goto (tgt := 147) F.1 F.2.1 dL_isSaved_143 (by decide) ?_
      exact w_zret F hr hlocks hP hS (Or.inr rfl) dL_isSaved_147 ⟨rfl, hL3, _, hH3⟩
    · refine lv_iload_n F.1 F.2.1 dL_isSaved_26 rfl (lv_at hl 2 rfl) ?_
      refine lv_if_ge (tgt := 127) F.1 F.2.1 dL_isSaved_27 (by decide) (fun c4 => False.elim (by revert c4; decide)) (fun c4 => ?_)
      have hi20 : i ≤ 20 := by have q := c1; have z : ¬ 20 < i := fun z => q (nI_lt (a := 20) z (by omega)); omega
      rw [svl_next hi20] at hT
      refine lv_aload_n F.1 F.2.1 dL_isSaved_30 rfl (lv_at hl 5 rfl) ?_
      refine lv_iconst (v := 0) F.1 F.2.1 dL_isSaved_31 (by decide) ?_
      refine w_calli F hP hS (k_ifRolled l D Y ad N hI hN _ hL 0 hokg (by omega) (by omega)) (cwVm 1 F.2.2.2.2.1 (fun _ h => h) mw_509 mw_743 mw_507 mw_508 mw_2 rfl rfl ydX7_ifRolled ⟨by decide, by decide⟩) (by omega) (ls_at hL) rfl rfl hl.1 rfl (Nat.le_of_ble_eq_true rfl) dL_isSaved_32 ⟨Nat.zero_le _, Nat.zero_le _⟩ (fun r3 C3 H locs hq hP hS => ?_)
      obtain ⟨hr3, hL3, hz3⟩ := hq
      have hH3 := hz3.trans hH
      have hr3 := hr3.trans ((ifr_0 hg5 hg11).trans ((ag_roll 20 hag).1.1 11 (by decide)))
      subst hr3
      refine lv_iconst (v := 4) F.1 F.2.1 dL_isSaved_35 (by decide) ?_
      refine lv_icmp_ne (tgt := 44) F.1 F.2.1 dL_isSaved_36 (by decide) (fun c5 => ?_) (fun c5 => ?_)
      · refine lv_iload_n F.1 F.2.1 dL_isSaved_44 rfl (lv_at hl 2 rfl) ?_
        refine lv_istore_n (lv' := [(3, .int ((-6))), (5, .int (nI i)), (4, .int (f 4)), (2, .int (T_svl x f 21 0)), (1, .int (x)), (0, .ref (ad 0))]) F.1 F.2.1 dL_isSaved_45 rfl hl (by decide) rfl (fun ls hl => ?_)
        refine lv_aload_n F.1 F.2.1 dL_isSaved_46 rfl (lv_at hl 5 rfl) ?_
        refine lv_iconst (v := 2) F.1 F.2.1 dL_isSaved_47 (by decide) ?_
        refine w_calli F hP hS (k_ofHoop l D Y ad N hI hN _ hL3 2) (cwVm 1 F.2.2.2.2.1 (fun _ h => h) mw_454 mw_719 mw_452 mw_453 mw_2 rfl rfl ydX7_ofHoop ⟨by decide, by decide⟩) (by omega) (ls_at hL3) rfl rfl hl.1 rfl (Nat.le_of_ble_eq_true rfl) dL_isSaved_48 ⟨Nat.zero_le _, Nat.zero_le _⟩ (fun r4 C2 H locs hq hP hS => ?_)
        obtain ⟨hw4, hr4⟩ := hq; rw [hw4] at hP
        have hr4 := hr4.trans (oh_2 hg5)
        subst hr4
        refine lv_istore (lv' := [(6, .int (g 8 + 500)), (3, .int ((-6))), (5, .int (nI i)), (4, .int (f 4)), (2, .int (T_svl x f 21 0)), (1, .int (x)), (0, .ref (ad 0))]) F.1 F.2.1 dL_isSaved_51 hl (by decide) rfl (fun ls hl => ?_)
        refine lv_iload_n F.1 F.2.1 dL_isSaved_53 rfl (lv_at hl 5 rfl) ?_
        refine lv_if_ne (tgt := 66) F.1 F.2.1 dL_isSaved_54 (by decide) (fun c6 => ?_) (fun c6 => ?_)
        · refine lv_aload_n F.1 F.2.1 dL_isSaved_66 rfl (lv_at hl 6 rfl) ?_
          refine lv_bipush (v := 13) F.1 F.2.1 dL_isSaved_67 (by decide) ?_
          refine w_calli F hP hS (k_count l D Y ad N hI hN _ hL3 13 (by decide) hokg) (cwVm 1 F.2.2.2.2.1 (fun _ h => h) mw_482 mw_716 mw_480 mw_481 mw_2 rfl rfl ydX7_count ⟨by decide, by decide⟩) (by omega) (ls_at hL3) rfl rfl hl.1 rfl (Nat.le_of_ble_eq_true rfl) dL_isSaved_69 ⟨Nat.zero_le _, Nat.zero_le _⟩ (fun r5 C2 H locs hq hP hS => ?_)
          obtain ⟨hw5, hr5⟩ := hq; rw [hw5] at hP
          have hr5 := hr5.trans cn_13
          subst hr5
          refine lv_ineg F.1 F.2.1 dL_isSaved_72 ?_
          refine lv_istore (lv' := [(7, .int (-(g 3))), (6, .int (g 8 + 500)), (3, .int ((-6))), (5, .int (nI i)), (4, .int (f 4)), (2, .int (T_svl x f 21 0)), (1, .int (x)), (0, .ref (ad 0))]) F.1 F.2.1 dL_isSaved_73 hl (by decide) rfl (fun ls hl => ?_)
          refine lv_aload_n F.1 F.2.1 dL_isSaved_75 rfl (lv_at hl 7 rfl) ?_
          refine lv_iconst (v := 3) F.1 F.2.1 dL_isSaved_76 (by decide) ?_
          refine w_calli F hP hS (k_ofHoop l D Y ad N hI hN _ hL3 3) (cwVm 1 F.2.2.2.2.1 (fun _ h => h) mw_454 mw_719 mw_452 mw_453 mw_2 rfl rfl ydX7_ofHoop ⟨by decide, by decide⟩) (by omega) (ls_at hL3) rfl rfl hl.1 rfl (Nat.le_of_ble_eq_true rfl) dL_isSaved_77 ⟨Nat.zero_le _, Nat.zero_le _⟩ (fun r6 C2 H locs hq hP hS => ?_)
          obtain ⟨hw6, hr6⟩ := hq; rw [hw6] at hP
          have hr6 := hr6.trans (oh_3 hg5)
          subst hr6
          refine lv_istore (lv' := [(8, .int (g 9)), (7, .int (-(g 3))), (6, .int (g 8 + 500)), (3, .int ((-6))), (5, .int (nI i)), (4, .int (f 4)), (2, .int (T_svl x f 21 0)), (1, .int (x)), (0, .ref (ad 0))]) F.1 F.2.1 dL_isSaved_80 hl (by decide) rfl (fun ls hl => ?_)
          refine lv_aload_n F.1 F.2.1 dL_isSaved_82 rfl (lv_at hl 8 rfl) ?_
          refine lv_iload_n F.1 F.2.1 dL_isSaved_83 rfl (lv_at hl 7 rfl) ?_
          refine w_calli F hP hS (k_tap l D Y ad N hI hN _ hL3 x hx hg5 hg11 hokg (by omega)) (cwVm 1 F.2.2.2.2.1 (fun _ h => h) mw_396 mw_721 mw_394 mw_395 mw_2 rfl rfl ydX7_tap ⟨by decide, by decide⟩) (by omega) (ls_at hL3) rfl rfl hl.1 rfl (Nat.le_of_ble_eq_true rfl) dL_isSaved_84 ⟨Nat.zero_le _, Nat.zero_le _⟩ (fun r7 C7 H locs hq hP hS => ?_)
          obtain ⟨hr7, hL7, hz7⟩ := hq
          have hH7 := hz7.trans hH3
          have hr7 := hr7.trans (tap_8b c6)
          subst hr7
          have hg25 : T_tapp x g 5 = 1 := (tapp_out (by decide) (by decide)).trans hg5
          refine lv_iload F.1 F.2.1 dL_isSaved_87 (lv_at hl 2 rfl) ?_
          refine lv_iload F.1 F.2.1 dL_isSaved_89 (lv_at hl 1 rfl) ?_
          refine lv_iadd F.1 F.2.1 dL_isSaved_91 ?_
          refine lv_icmp_ne (tgt := 119) F.1 F.2.1 dL_isSaved_92 (by decide) (fun c7 => False.elim (c7 rfl)) (fun c7 => ?_)
          refine lv_aload_n F.1 F.2.1 dL_isSaved_95 rfl (lv_at hl 8 rfl) ?_
          refine lv_iconst (v := 3) F.1 F.2.1 dL_isSaved_96 (by decide) ?_
          refine w_calli F hP hS (k_ofHoop l D Y ad N hI hN _ hL7 3) (cwVm 1 F.2.2.2.2.1 (fun _ h => h) mw_454 mw_719 mw_452 mw_453 mw_2 rfl rfl ydX7_ofHoop ⟨by decide, by decide⟩) (by omega) (ls_at hL7) rfl rfl hl.1 rfl (Nat.le_of_ble_eq_true rfl) dL_isSaved_97 ⟨Nat.zero_le _, Nat.zero_le _⟩ (fun r8 C2 H locs hq hP hS => ?_)
          obtain ⟨hw8, hr8⟩ := hq; rw [hw8] at hP
          have hr8 := hr8.trans (oh_3 hg25)
          subst hr8
          refine lv_iload F.1 F.2.1 dL_isSaved_100 (lv_at hl 0 rfl) ?_
          refine lv_bipush (v := 96) F.1 F.2.1 dL_isSaved_102 (by decide) ?_
          refine lv_icmp_le (tgt := 112) F.1 F.2.1 dL_isSaved_104 (by decide) (fun c8 => ?_) (fun c8 => ?_)
          · refine lv_iload F.1 F.2.1 dL_isSaved_112 (lv_at hl 0 rfl) ?_
            refine lv_iconst (v := 2) F.1 F.2.1 dL_isSaved_114 (by decide) ?_
            refine lv_iadd F.1 F.2.1 dL_isSaved_115 ?_
            refine lv_icmp_eq (tgt := 121) F.1 F.2.1 dL_isSaved_116 (by decide) (fun c9 => ?_) (fun c9 => False.elim (c9 ((mn_tap (hokg.2.2.1 hg5).2.2.1).1 c8)))
            refine lv_iinc (v := (nI i) + 1) (lv' := [(5, .int ((nI i) + 1)), (8, .int (g 9)), (7, .int (-(g 3))), (6, .int (g 8 + 500)), (3, .int ((-6))), (4, .int (f 4)), (2, .int (T_svl x f 21 0)), (1, .int (x)), (0, .ref (ad 0))]) F.1 F.2.1 dL_isSaved_121 hl (k := 4) rfl rfl (by decide) rfl (fun ls hl => ?_)
            refine lv_goto (tgt := 19) F.1 F.2.1 dL_isSaved_124 (by decide) ?_
            exact ih _ (by omega) _ _ _ _ ⟨i + 1, T_tapp x g, -6, rfl, by omega, ag_tapp x hag, okRow_mono (by omega) (okRow_tap x (by omega) hokg), hg25, (tapp_out (by decide) (by decide)).trans hg11, hL7, hH7, Or.inl ⟨rfl, (if_neg c5).symm.trans hT⟩, (by rw [nI_succ]; exact lv_sub hl [0, 5, 4, 6, 7, 8] rfl)⟩ hP hS
          · refine lv_bipush (v := 99) F.1 F.2.1 dL_isSaved_107 (by decide) ?_
            refine lv_goto (tgt := 116) F.1 F.2.1 dL_isSaved_109 (by decide) ?_
            refine lv_icmp_eq (tgt := 121) F.1 F.2.1 dL_isSaved_116 (by decide) (fun c10 => ?_) (fun c10 => False.elim (c10 ((mn_tap (hokg.2.2.1 hg5).2.2.1).2 c8)))
            refine lv_iinc (v := (nI i) + 1) (lv' := [(5, .int ((nI i) + 1)), (8, .int (g 9)), (7, .int (-(g 3))), (6, .int (g 8 + 500)), (3, .int ((-6))), (4, .int (f 4)), (2, .int (T_svl x f 21 0)), (1, .int (x)), (0, .ref (ad 0))]) F.1 F.2.1 dL_isSaved_121 hl (k := 4) rfl rfl (by decide) rfl (fun ls hl => ?_)
            refine lv_goto (tgt := 19) F.1 F.2.1 dL_isSaved_124 (by decide) ?_
            exact ih _ (by omega) _ _ _ _ ⟨i + 1, T_tapp x g, -6, rfl, by omega, ag_tapp x hag, okRow_mono (by omega) (okRow_tap x (by omega) hokg), hg25, (tapp_out (by decide) (by decide)).trans hg11, hL7, hH7, Or.inl ⟨rfl, (if_neg c5).symm.trans hT⟩, (by rw [nI_succ]; exact lv_sub hl [0, 5, 4, 6, 7, 8] rfl)⟩ hP hS
        · refine lv_aload_n F.1 F.2.1 dL_isSaved_57 rfl (lv_at hl 6 rfl) ?_
          refine lv_bipush (v := 13) F.1 F.2.1 dL_isSaved_58 (by decide) ?_
          refine w_calli F hP hS (k_count l D Y ad N hI hN _ hL3 13 (by decide) hokg) (cwVm 1 F.2.2.2.2.1 (fun _ h => h) mw_482 mw_716 mw_480 mw_481 mw_2 rfl rfl ydX7_count ⟨by decide, by decide⟩) (by omega) (ls_at hL3) rfl rfl hl.1 rfl (Nat.le_of_ble_eq_true rfl) dL_isSaved_60 ⟨Nat.zero_le _, Nat.zero_le _⟩ (fun r5 C2 H locs hq hP hS => ?_)
          obtain ⟨hw5, hr5⟩ := hq; rw [hw5] at hP
          have hr5 := hr5.trans cn_13
          subst hr5
          refine lv_goto (tgt := 73) F.1 F.2.1 dL_isSaved_63 (by decide) ?_
          refine lv_istore (lv' := [(7, .int (g 3)), (6, .int (g 8 + 500)), (3, .int ((-6))), (5, .int (nI i)), (4, .int (f 4)), (2, .int (T_svl x f 21 0)), (1, .int (x)), (0, .ref (ad 0))]) F.1 F.2.1 dL_isSaved_73 hl (by decide) rfl (fun ls hl => ?_)
          refine lv_aload_n F.1 F.2.1 dL_isSaved_75 rfl (lv_at hl 7 rfl) ?_
          refine lv_iconst (v := 3) F.1 F.2.1 dL_isSaved_76 (by decide) ?_
          refine w_calli F hP hS (k_ofHoop l D Y ad N hI hN _ hL3 3) (cwVm 1 F.2.2.2.2.1 (fun _ h => h) mw_454 mw_719 mw_452 mw_453 mw_2 rfl rfl ydX7_ofHoop ⟨by decide, by decide⟩) (by omega) (ls_at hL3) rfl rfl hl.1 rfl (Nat.le_of_ble_eq_true rfl) dL_isSaved_77 ⟨Nat.zero_le _, Nat.zero_le _⟩ (fun r6 C2 H locs hq hP hS => ?_)
          obtain ⟨hw6, hr6⟩ := hq; rw [hw6] at hP
          have hr6 := hr6.trans (oh_3 hg5)
          subst hr6
          refine lv_istore (lv' := [(8, .int (g 9)), (7, .int (g 3)), (6, .int (g 8 + 500)), (3, .int ((-6))), (5, .int (nI i)), (4, .int (f 4)), (2, .int (T_svl x f 21 0)), (1, .int (x)), (0, .ref (ad 0))]) F.1 F.2.1 dL_isSaved_80 hl (by decide) rfl (fun ls hl => ?_)
          refine lv_aload_n F.1 F.2.1 dL_isSaved_82 rfl (lv_at hl 8 rfl) ?_
          refine lv_iload_n F.1 F.2.1 dL_isSaved_83 rfl (lv_at hl 7 rfl) ?_
          refine w_calli F hP hS (k_tap l D Y ad N hI hN _ hL3 x hx hg5 hg11 hokg (by omega)) (cwVm 1 F.2.2.2.2.1 (fun _ h => h) mw_396 mw_721 mw_394 mw_395 mw_2 rfl rfl ydX7_tap ⟨by decide, by decide⟩) (by omega) (ls_at hL3) rfl rfl hl.1 rfl (Nat.le_of_ble_eq_true rfl) dL_isSaved_84 ⟨Nat.zero_le _, Nat.zero_le _⟩ (fun r7 C7 H locs hq hP hS => ?_)
          obtain ⟨hr7, hL7, hz7⟩ := hq
          have hH7 := hz7.trans hH3
          have hr7 := hr7.trans (tap_8a c6)
          subst hr7
          have hg25 : T_tapp x g 5 = 1 := (tapp_out (by decide) (by decide)).trans hg5
          refine lv_iload F.1 F.2.1 dL_isSaved_87 (lv_at hl 2 rfl) ?_
          refine lv_iload F.1 F.2.1 dL_isSaved_89 (lv_at hl 1 rfl) ?_
          refine lv_iadd F.1 F.2.1 dL_isSaved_91 ?_
          refine lv_icmp_ne (tgt := 119) F.1 F.2.1 dL_isSaved_92 (by decide) (fun c11 => False.elim (c11 rfl)) (fun c11 => ?_)
          refine lv_aload_n F.1 F.2.1 dL_isSaved_95 rfl (lv_at hl 8 rfl) ?_
          refine lv_iconst (v := 3) F.1 F.2.1 dL_isSaved_96 (by decide) ?_
          refine w_calli F hP hS (k_ofHoop l D Y ad N hI hN _ hL7 3) (cwVm 1 F.2.2.2.2.1 (fun _ h => h) mw_454 mw_719 mw_452 mw_453 mw_2 rfl rfl ydX7_ofHoop ⟨by decide, by decide⟩) (by omega) (ls_at hL7) rfl rfl hl.1 rfl (Nat.le_of_ble_eq_true rfl) dL_isSaved_97 ⟨Nat.zero_le _, Nat.zero_le _⟩ (fun r8 C2 H locs hq hP hS => ?_)
          obtain ⟨hw8, hr8⟩ := hq; rw [hw8] at hP
          have hr8 := hr8.trans (oh_3 hg25)
          subst hr8
          refine lv_iload F.1 F.2.1 dL_isSaved_100 (lv_at hl 0 rfl) ?_
          refine lv_bipush (v := 96) F.1 F.2.1 dL_isSaved_102 (by decide) ?_
          refine lv_icmp_le (tgt := 112) F.1 F.2.1 dL_isSaved_104 (by decide) (fun c12 => ?_) (fun c12 => ?_)
          · refine lv_iload F.1 F.2.1 dL_isSaved_112 (lv_at hl 0 rfl) ?_
            refine lv_iconst (v := 2) F.1 F.2.1 dL_isSaved_114 (by decide) ?_
            refine lv_iadd F.1 F.2.1 dL_isSaved_115 ?_
            refine lv_icmp_eq (tgt := 121) F.1 F.2.1 dL_isSaved_116 (by decide) (fun c13 => ?_) (fun c13 => False.elim (c13 ((mn_tap (hokg.2.2.1 hg5).2.2.1).1 c12)))
            refine lv_iinc (v := (nI i) + 1) (lv' := [(5, .int ((nI i) + 1)), (8, .int (g 9)), (7, .int (g 3)), (6, .int (g 8 + 500)), (3, .int ((-6))), (4, .int (f 4)), (2, .int (T_svl x f 21 0)), (1, .int (x)), (0, .ref (ad 0))]) F.1 F.2.1 dL_isSaved_121 hl (k := 4) rfl rfl (by decide) rfl (fun ls hl => ?_)
            refine lv_goto (tgt := 19) F.1 F.2.1 dL_isSaved_124 (by decide) ?_
            exact ih _ (by omega) _ _ _ _ ⟨i + 1, T_tapp x g, -6, rfl, by omega, ag_tapp x hag, okRow_mono (by omega) (okRow_tap x (by omega) hokg), hg25, (tapp_out (by decide) (by decide)).trans hg11, hL7, hH7, Or.inl ⟨rfl, (if_neg c5).symm.trans hT⟩, (by rw [nI_succ]; exact lv_sub hl [0, 5, 4, 6, 7, 8] rfl)⟩ hP hS
          · refine lv_bipush (v := 99) F.1 F.2.1 dL_isSaved_107 (by decide) ?_
            refine lv_goto (tgt := 116) F.1 F.2.1 dL_isSaved_109 (by decide) ?_
            refine lv_icmp_eq (tgt := 121) F.1 F.2.1 dL_isSaved_116 (by decide) (fun c14 => ?_) (fun c14 => False.elim (c14 ((mn_tap (hokg.2.2.1 hg5).2.2.1).2 c12)))
            refine lv_iinc (v := (nI i) + 1) (lv' := [(5, .int ((nI i) + 1)), (8, .int (g 9)), (7, .int (g 3)), (6, .int (g 8 + 500)), (3, .int ((-6))), (4, .int (f 4)), (2, .int (T_svl x f 21 0)), (1, .int (x)), (0, .ref (ad 0))]) F.1 F.2.1 dL_isSaved_121 hl (k := 4) rfl rfl (by decide) rfl (fun ls hl => ?_)
            refine lv_goto (tgt := 19) F.1 F.2.1 dL_isSaved_124 (by decide) ?_
            exact ih _ (by omega) _ _ _ _ ⟨i + 1, T_tapp x g, -6, rfl, by omega, ag_tapp x hag, okRow_mono (by omega) (okRow_tap x (by omega) hokg), hg25, (tapp_out (by decide) (by decide)).trans hg11, hL7, hH7, Or.inl ⟨rfl, (if_neg c5).symm.trans hT⟩, (by rw [nI_succ]; exact lv_sub hl [0, 5, 4, 6, 7, 8] rfl)⟩ hP hS
      · refine lv_iload F.1 F.2.1 dL_isSaved_39 (lv_at hl 0 rfl) ?_
        refine lv_goto (tgt := 45) F.1 F.2.1 dL_isSaved_41 (by decide) ?_
        refine lv_istore_n (lv' := [(3, .int (nI i)), (5, .int (nI i)), (4, .int (f 4)), (2, .int (T_svl x f 21 0)), (1, .int (x)), (0, .ref (ad 0))]) F.1 F.2.1 dL_isSaved_45 rfl hl (by decide) rfl (fun ls hl => ?_)
        refine lv_aload_n F.1 F.2.1 dL_isSaved_46 rfl (lv_at hl 5 rfl) ?_
        refine lv_iconst (v := 2) F.1 F.2.1 dL_isSaved_47 (by decide) ?_
        refine w_calli F hP hS (k_ofHoop l D Y ad N hI hN _ hL3 2) (cwVm 1 F.2.2.2.2.1 (fun _ h => h) mw_454 mw_719 mw_452 mw_453 mw_2 rfl rfl ydX7_ofHoop ⟨by decide, by decide⟩) (by omega) (ls_at hL3) rfl rfl hl.1 rfl (Nat.le_of_ble_eq_true rfl) dL_isSaved_48 ⟨Nat.zero_le _, Nat.zero_le _⟩ (fun r4 C2 H locs hq hP hS => ?_)
        obtain ⟨hw4, hr4⟩ := hq; rw [hw4] at hP
        have hr4 := hr4.trans (oh_2 hg5)
        subst hr4
        refine lv_istore (lv' := [(6, .int (g 8 + 500)), (3, .int (nI i)), (5, .int (nI i)), (4, .int (f 4)), (2, .int (T_svl x f 21 0)), (1, .int (x)), (0, .ref (ad 0))]) F.1 F.2.1 dL_isSaved_51 hl (by decide) rfl (fun ls hl => ?_)
        refine lv_iload_n F.1 F.2.1 dL_isSaved_53 rfl (lv_at hl 5 rfl) ?_
        refine lv_if_ne (tgt := 66) F.1 F.2.1 dL_isSaved_54 (by decide) (fun c15 => ?_) (fun c15 => ?_)
        · refine lv_aload_n F.1 F.2.1 dL_isSaved_66 rfl (lv_at hl 6 rfl) ?_
          refine lv_bipush (v := 13) F.1 F.2.1 dL_isSaved_67 (by decide) ?_
          refine w_calli F hP hS (k_count l D Y ad N hI hN _ hL3 13 (by decide) hokg) (cwVm 1 F.2.2.2.2.1 (fun _ h => h) mw_482 mw_716 mw_480 mw_481 mw_2 rfl rfl ydX7_count ⟨by decide, by decide⟩) (by omega) (ls_at hL3) rfl rfl hl.1 rfl (Nat.le_of_ble_eq_true rfl) dL_isSaved_69 ⟨Nat.zero_le _, Nat.zero_le _⟩ (fun r5 C2 H locs hq hP hS => ?_)
          obtain ⟨hw5, hr5⟩ := hq; rw [hw5] at hP
          have hr5 := hr5.trans cn_13
          subst hr5
          refine lv_ineg F.1 F.2.1 dL_isSaved_72 ?_
          refine lv_istore (lv' := [(7, .int (-(g 3))), (6, .int (g 8 + 500)), (3, .int (nI i)), (5, .int (nI i)), (4, .int (f 4)), (2, .int (T_svl x f 21 0)), (1, .int (x)), (0, .ref (ad 0))]) F.1 F.2.1 dL_isSaved_73 hl (by decide) rfl (fun ls hl => ?_)
          refine lv_aload_n F.1 F.2.1 dL_isSaved_75 rfl (lv_at hl 7 rfl) ?_
          refine lv_iconst (v := 3) F.1 F.2.1 dL_isSaved_76 (by decide) ?_
          refine w_calli F hP hS (k_ofHoop l D Y ad N hI hN _ hL3 3) (cwVm 1 F.2.2.2.2.1 (fun _ h => h) mw_454 mw_719 mw_452 mw_453 mw_2 rfl rfl ydX7_ofHoop ⟨by decide, by decide⟩) (by omega) (ls_at hL3) rfl rfl hl.1 rfl (Nat.le_of_ble_eq_true rfl) dL_isSaved_77 ⟨Nat.zero_le _, Nat.zero_le _⟩ (fun r6 C2 H locs hq hP hS => ?_)
          obtain ⟨hw6, hr6⟩ := hq; rw [hw6] at hP
          have hr6 := hr6.trans (oh_3 hg5)
          subst hr6
          refine lv_istore (lv' := [(8, .int (g 9)), (7, .int (-(g 3))), (6, .int (g 8 + 500)), (3, .int (nI i)), (5, .int (nI i)), (4, .int (f 4)), (2, .int (T_svl x f 21 0)), (1, .int (x)), (0, .ref (ad 0))]) F.1 F.2.1 dL_isSaved_80 hl (by decide) rfl (fun ls hl => ?_)
          refine lv_aload_n F.1 F.2.1 dL_isSaved_82 rfl (lv_at hl 8 rfl) ?_
          refine lv_iload_n F.1 F.2.1 dL_isSaved_83 rfl (lv_at hl 7 rfl) ?_
          refine w_calli F hP hS (k_tap l D Y ad N hI hN _ hL3 x hx hg5 hg11 hokg (by omega)) (cwVm 1 F.2.2.2.2.1 (fun _ h => h) mw_396 mw_721 mw_394 mw_395 mw_2 rfl rfl ydX7_tap ⟨by decide, by decide⟩) (by omega) (ls_at hL3) rfl rfl hl.1 rfl (Nat.le_of_ble_eq_true rfl) dL_isSaved_84 ⟨Nat.zero_le _, Nat.zero_le _⟩ (fun r7 C7 H locs hq hP hS => ?_)
          obtain ⟨hr7, hL7, hz7⟩ := hq
          have hH7 := hz7.trans hH3
          have hr7 := hr7.trans (tap_8b c15)
          subst hr7
          have hg25 : T_tapp x g 5 = 1 := (tapp_out (by decide) (by decide)).trans hg5
          refine lv_iload F.1 F.2.1 dL_isSaved_87 (lv_at hl 2 rfl) ?_
          refine lv_iload F.1 F.2.1 dL_isSaved_89 (lv_at hl 1 rfl) ?_
          refine lv_iadd F.1 F.2.1 dL_isSaved_91 ?_
          refine lv_icmp_ne (tgt := 119) F.1 F.2.1 dL_isSaved_92 (by decide) (fun c16 => False.elim (c16 rfl)) (fun c16 => ?_)
          refine lv_aload_n F.1 F.2.1 dL_isSaved_95 rfl (lv_at hl 8 rfl) ?_
          refine lv_iconst (v := 3) F.1 F.2.1 dL_isSaved_96 (by decide) ?_
          refine w_calli F hP hS (k_ofHoop l D Y ad N hI hN _ hL7 3) (cwVm 1 F.2.2.2.2.1 (fun _ h => h) mw_454 mw_719 mw_452 mw_453 mw_2 rfl rfl ydX7_ofHoop ⟨by decide, by decide⟩) (by omega) (ls_at hL7) rfl rfl hl.1 rfl (Nat.le_of_ble_eq_true rfl) dL_isSaved_97 ⟨Nat.zero_le _, Nat.zero_le _⟩ (fun r8 C2 H locs hq hP hS => ?_)
          obtain ⟨hw8, hr8⟩ := hq; rw [hw8] at hP
          have hr8 := hr8.trans (oh_3 hg25)
          subst hr8
          refine lv_iload F.1 F.2.1 dL_isSaved_100 (lv_at hl 0 rfl) ?_
          refine lv_bipush (v := 96) F.1 F.2.1 dL_isSaved_102 (by decide) ?_
          refine lv_icmp_le (tgt := 112) F.1 F.2.1 dL_isSaved_104 (by decide) (fun c17 => ?_) (fun c17 => ?_)
          · refine lv_iload F.1 F.2.1 dL_isSaved_112 (lv_at hl 0 rfl) ?_
            refine lv_iconst (v := 2) F.1 F.2.1 dL_isSaved_114 (by decide) ?_
            refine lv_iadd F.1 F.2.1 dL_isSaved_115 ?_
            refine lv_icmp_eq (tgt := 121) F.1 F.2.1 dL_isSaved_116 (by decide) (fun c18 => ?_) (fun c18 => False.elim (c18 ((mn_tap (hokg.2.2.1 hg5).2.2.1).1 c17)))
            refine lv_iinc (v := (nI i) + 1) (lv' := [(5, .int ((nI i) + 1)), (8, .int (g 9)), (7, .int (-(g 3))), (6, .int (g 8 + 500)), (3, .int (nI i)), (4, .int (f 4)), (2, .int (T_svl x f 21 0)), (1, .int (x)), (0, .ref (ad 0))]) F.1 F.2.1 dL_isSaved_121 hl (k := 4) rfl rfl (by decide) rfl (fun ls hl => ?_)
            refine lv_goto (tgt := 19) F.1 F.2.1 dL_isSaved_124 (by decide) ?_
            exact ih _ (by omega) _ _ _ _ ⟨i + 1, T_tapp x g, nI i, rfl, by omega, ag_tapp x hag, okRow_mono (by omega) (okRow_tap x (by omega) hokg), hg25, (tapp_out (by decide) (by decide)).trans hg11, hL7, hH7, Or.inr ⟨(if_pos c5).symm.trans hT, nI_le (a := 0) (Nat.zero_le i) (by omega)⟩, (by rw [nI_succ]; exact lv_sub hl [0, 5, 4, 6, 7, 8] rfl)⟩ hP hS
          · refine lv_bipush (v := 99) F.1 F.2.1 dL_isSaved_107 (by decide) ?_
            refine lv_goto (tgt := 116) F.1 F.2.1 dL_isSaved_109 (by decide) ?_
            refine lv_icmp_eq (tgt := 121) F.1 F.2.1 dL_isSaved_116 (by decide) (fun c19 => ?_) (fun c19 => False.elim (c19 ((mn_tap (hokg.2.2.1 hg5).2.2.1).2 c17)))
            refine lv_iinc (v := (nI i) + 1) (lv' := [(5, .int ((nI i) + 1)), (8, .int (g 9)), (7, .int (-(g 3))), (6, .int (g 8 + 500)), (3, .int (nI i)), (4, .int (f 4)), (2, .int (T_svl x f 21 0)), (1, .int (x)), (0, .ref (ad 0))]) F.1 F.2.1 dL_isSaved_121 hl (k := 4) rfl rfl (by decide) rfl (fun ls hl => ?_)
            refine lv_goto (tgt := 19) F.1 F.2.1 dL_isSaved_124 (by decide) ?_
            exact ih _ (by omega) _ _ _ _ ⟨i + 1, T_tapp x g, nI i, rfl, by omega, ag_tapp x hag, okRow_mono (by omega) (okRow_tap x (by omega) hokg), hg25, (tapp_out (by decide) (by decide)).trans hg11, hL7, hH7, Or.inr ⟨(if_pos c5).symm.trans hT, nI_le (a := 0) (Nat.zero_le i) (by omega)⟩, (by rw [nI_succ]; exact lv_sub hl [0, 5, 4, 6, 7, 8] rfl)⟩ hP hS
        · refine lv_aload_n F.1 F.2.1 dL_isSaved_57 rfl (lv_at hl 6 rfl) ?_
          refine lv_bipush (v := 13) F.1 F.2.1 dL_isSaved_58 (by decide) ?_
          refine w_calli F hP hS (k_count l D Y ad N hI hN _ hL3 13 (by decide) hokg) (cwVm 1 F.2.2.2.2.1 (fun _ h => h) mw_482 mw_716 mw_480 mw_481 mw_2 rfl rfl ydX7_count ⟨by decide, by decide⟩) (by omega) (ls_at hL3) rfl rfl hl.1 rfl (Nat.le_of_ble_eq_true rfl) dL_isSaved_60 ⟨Nat.zero_le _, Nat.zero_le _⟩ (fun r5 C2 H locs hq hP hS => ?_)
          obtain ⟨hw5, hr5⟩ := hq; rw [hw5] at hP
          have hr5 := hr5.trans cn_13
          subst hr5
          refine lv_goto (tgt := 73) F.1 F.2.1 dL_isSaved_63 (by decide) ?_
          refine lv_istore (lv' := [(7, .int (g 3)), (6, .int (g 8 + 500)), (3, .int (nI i)), (5, .int (nI i)), (4, .int (f 4)), (2, .int (T_svl x f 21 0)), (1, .int (x)), (0, .ref (ad 0))]) F.1 F.2.1 dL_isSaved_73 hl (by decide) rfl (fun ls hl => ?_)
          refine lv_aload_n F.1 F.2.1 dL_isSaved_75 rfl (lv_at hl 7 rfl) ?_
          refine lv_iconst (v := 3) F.1 F.2.1 dL_isSaved_76 (by decide) ?_
          refine w_calli F hP hS (k_ofHoop l D Y ad N hI hN _ hL3 3) (cwVm 1 F.2.2.2.2.1 (fun _ h => h) mw_454 mw_719 mw_452 mw_453 mw_2 rfl rfl ydX7_ofHoop ⟨by decide, by decide⟩) (by omega) (ls_at hL3) rfl rfl hl.1 rfl (Nat.le_of_ble_eq_true rfl) dL_isSaved_77 ⟨Nat.zero_le _, Nat.zero_le _⟩ (fun r6 C2 H locs hq hP hS => ?_)
          obtain ⟨hw6, hr6⟩ := hq; rw [hw6] at hP
          have hr6 := hr6.trans (oh_3 hg5)
          subst hr6
          refine lv_istore (lv' := [(8, .int (g 9)), (7, .int (g 3)), (6, .int (g 8 + 500)), (3, .int (nI i)), (5, .int (nI i)), (4, .int (f 4)), (2, .int (T_svl x f 21 0)), (1, .int (x)), (0, .ref (ad 0))]) F.1 F.2.1 dL_isSaved_80 hl (by decide) rfl (fun ls hl => ?_)
          refine lv_aload_n F.1 F.2.1 dL_isSaved_82 rfl (lv_at hl 8 rfl) ?_
          refine lv_iload_n F.1 F.2.1 dL_isSaved_83 rfl (lv_at hl 7 rfl) ?_
          refine w_calli F hP hS (k_tap l D Y ad N hI hN _ hL3 x hx hg5 hg11 hokg (by omega)) (cwVm 1 F.2.2.2.2.1 (fun _ h => h) mw_396 mw_721 mw_394 mw_395 mw_2 rfl rfl ydX7_tap ⟨by decide, by decide⟩) (by omega) (ls_at hL3) rfl rfl hl.1 rfl (Nat.le_of_ble_eq_true rfl) dL_isSaved_84 ⟨Nat.zero_le _, Nat.zero_le _⟩ (fun r7 C7 H locs hq hP hS => ?_)
          obtain ⟨hr7, hL7, hz7⟩ := hq
          have hH7 := hz7.trans hH3
          have hr7 := hr7.trans (tap_8a c15)
          subst hr7
          have hg25 : T_tapp x g 5 = 1 := (tapp_out (by decide) (by decide)).trans hg5
          refine lv_iload F.1 F.2.1 dL_isSaved_87 (lv_at hl 2 rfl) ?_
          refine lv_iload F.1 F.2.1 dL_isSaved_89 (lv_at hl 1 rfl) ?_
          refine lv_iadd F.1 F.2.1 dL_isSaved_91 ?_
          refine lv_icmp_ne (tgt := 119) F.1 F.2.1 dL_isSaved_92 (by decide) (fun c20 => False.elim (c20 rfl)) (fun c20 => ?_)
          refine lv_aload_n F.1 F.2.1 dL_isSaved_95 rfl (lv_at hl 8 rfl) ?_
          refine lv_iconst (v := 3) F.1 F.2.1 dL_isSaved_96 (by decide) ?_
          refine w_calli F hP hS (k_ofHoop l D Y ad N hI hN _ hL7 3) (cwVm 1 F.2.2.2.2.1 (fun _ h => h) mw_454 mw_719 mw_452 mw_453 mw_2 rfl rfl ydX7_ofHoop ⟨by decide, by decide⟩) (by omega) (ls_at hL7) rfl rfl hl.1 rfl (Nat.le_of_ble_eq_true rfl) dL_isSaved_97 ⟨Nat.zero_le _, Nat.zero_le _⟩ (fun r8 C2 H locs hq hP hS => ?_)
          obtain ⟨hw8, hr8⟩ := hq; rw [hw8] at hP
          have hr8 := hr8.trans (oh_3 hg25)
          subst hr8
          refine lv_iload F.1 F.2.1 dL_isSaved_100 (lv_at hl 0 rfl) ?_
          refine lv_bipush (v := 96) F.1 F.2.1 dL_isSaved_102 (by decide) ?_
          refine lv_icmp_le (tgt := 112) F.1 F.2.1 dL_isSaved_104 (by decide) (fun c21 => ?_) (fun c21 => ?_)
          · refine lv_iload F.1 F.2.1 dL_isSaved_112 (lv_at hl 0 rfl) ?_
            refine lv_iconst (v := 2) F.1 F.2.1 dL_isSaved_114 (by decide) ?_
            refine lv_iadd F.1 F.2.1 dL_isSaved_115 ?_
            refine lv_icmp_eq (tgt := 121) F.1 F.2.1 dL_isSaved_116 (by decide) (fun c22 => ?_) (fun c22 => False.elim (c22 ((mn_tap (hokg.2.2.1 hg5).2.2.1).1 c21)))
            refine lv_iinc (v := (nI i) + 1) (lv' := [(5, .int ((nI i) + 1)), (8, .int (g 9)), (7, .int (g 3)), (6, .int (g 8 + 500)), (3, .int (nI i)), (4, .int (f 4)), (2, .int (T_svl x f 21 0)), (1, .int (x)), (0, .ref (ad 0))]) F.1 F.2.1 dL_isSaved_121 hl (k := 4) rfl rfl (by decide) rfl (fun ls hl => ?_)
            refine lv_goto (tgt := 19) F.1 F.2.1 dL_isSaved_124 (by decide) ?_
            exact ih _ (by omega) _ _ _ _ ⟨i + 1, T_tapp x g, nI i, rfl, by omega, ag_tapp x hag, okRow_mono (by omega) (okRow_tap x (by omega) hokg), hg25, (tapp_out (by decide) (by decide)).trans hg11, hL7, hH7, Or.inr ⟨(if_pos c5).symm.trans hT, nI_le (a := 0) (Nat.zero_le i) (by omega)⟩, (by rw [nI_succ]; exact lv_sub hl [0, 5, 4, 6, 7, 8] rfl)⟩ hP hS
          · refine lv_bipush (v := 99) F.1 F.2.1 dL_isSaved_107 (by decide) ?_
            refine lv_goto (tgt := 116) F.1 F.2.1 dL_isSaved_109 (by decide) ?_
            refine lv_icmp_eq (tgt := 121) F.1 F.2.1 dL_isSaved_116 (by decide) (fun c23 => ?_) (fun c23 => False.elim (c23 ((mn_tap (hokg.2.2.1 hg5).2.2.1).2 c21)))
            refine lv_iinc (v := (nI i) + 1) (lv' := [(5, .int ((nI i) + 1)), (8, .int (g 9)), (7, .int (g 3)), (6, .int (g 8 + 500)), (3, .int (nI i)), (4, .int (f 4)), (2, .int (T_svl x f 21 0)), (1, .int (x)), (0, .ref (ad 0))]) F.1 F.2.1 dL_isSaved_121 hl (k := 4) rfl rfl (by decide) rfl (fun ls hl => ?_)
            refine lv_goto (tgt := 19) F.1 F.2.1 dL_isSaved_124 (by decide) ?_
            exact ih _ (by omega) _ _ _ _ ⟨i + 1, T_tapp x g, nI i, rfl, by omega, ag_tapp x hag, okRow_mono (by omega) (okRow_tap x (by omega) hokg), hg25, (tapp_out (by decide) (by decide)).trans hg11, hL7, hH7, Or.inr ⟨(if_pos c5).symm.trans hT, nI_le (a := 0) (Nat.zero_le i) (by omega)⟩, (by rw [nI_succ]; exact lv_sub hl [0, 5, 4, 6, 7, 8] rfl)⟩ hP hS
  · have hD : T_svl x f 21 0 = du := ed.symm
    refine lv_icmp_gt (tgt := 127) F.1 F.2.1 dL_isSaved_23 (by decide) (fun c24 => ?_) (fun c24 => ?_)
    · refine lv_iload_n F.1 F.2.1 dL_isSaved_127 rfl (lv_at hl 3 rfl) ?_
      refine lv_iload_n F.1 F.2.1 dL_isSaved_128 rfl (lv_at hl 2 rfl) ?_
      refine lv_icmp_ne (tgt := 146) F.1 F.2.1 dL_isSaved_129 (by decide) (fun c25 => False.elim (c25 hD)) (fun c25 => ?_)
      refine lv_aload_n F.1 F.2.1 dL_isSaved_132 rfl (lv_at hl 5 rfl) ?_
      refine lv_iconst (v := 1) F.1 F.2.1 dL_isSaved_133 (by decide) ?_
      refine w_calli F hP hS (k_restore l D Y ad N hI hN _ hL 1 (by decide) (by rw [upd_s]; decide)) (cwVm 1 F.2.2.2.2.1 (fun _ h => h) mw_699 mw_744 mw_697 mw_698 mw_2 rfl rfl ydX7_restore ⟨by decide, by decide⟩) (by omega) (ls_at hL) rfl rfl hl.1 rfl (Nat.le_of_ble_eq_true rfl) dL_isSaved_134 ⟨Nat.zero_le _, Nat.zero_le _⟩ (fun r3 C3 H locs hq hP hS => ?_)
      obtain ⟨hr3, hL3, hz3⟩ := hq
      have hH3 := hz3.trans hH
      have hr3 := hr3.trans (show va_up sl 1 f 1 4 = f 4 by rw [va_up_self])
      subst hr3
      rw [va_up_self] at hL3
      refine lv_iload F.1 F.2.1 dL_isSaved_137 (lv_at hl 1 rfl) ?_
      refine lv_icmp_ne (tgt := 146) F.1 F.2.1 dL_isSaved_139 (by decide) (fun c26 => False.elim (c26 rfl)) (fun c26 => ?_)
      refine lv_iconst (v := 1) F.1 F.2.1 dL_isSaved_142 (by decide) ?_
      refine lv_goto (tgt := 147) F.1 F.2.1 dL_isSaved_143 (by decide) ?_
      exact w_zret F hr hlocks hP hS (Or.inr rfl) dL_isSaved_147 ⟨rfl, hL3, _, hH3⟩
    · refine lv_iload_n F.1 F.2.1 dL_isSaved_26 rfl (lv_at hl 2 rfl) ?_
      refine lv_if_ge (tgt := 127) F.1 F.2.1 dL_isSaved_27 (by decide) (fun c27 => ?_) (fun c27 => False.elim (c27 hd0))
      refine lv_iload_n F.1 F.2.1 dL_isSaved_127 rfl (lv_at hl 3 rfl) ?_
      refine lv_iload_n F.1 F.2.1 dL_isSaved_128 rfl (lv_at hl 2 rfl) ?_
      refine lv_icmp_ne (tgt := 146) F.1 F.2.1 dL_isSaved_129 (by decide) (fun c28 => False.elim (c28 hD)) (fun c28 => ?_)
      refine lv_aload_n F.1 F.2.1 dL_isSaved_132 rfl (lv_at hl 5 rfl) ?_
      refine lv_iconst (v := 1) F.1 F.2.1 dL_isSaved_133 (by decide) ?_
      refine w_calli F hP hS (k_restore l D Y ad N hI hN _ hL 1 (by decide) (by rw [upd_s]; decide)) (cwVm 1 F.2.2.2.2.1 (fun _ h => h) mw_699 mw_744 mw_697 mw_698 mw_2 rfl rfl ydX7_restore ⟨by decide, by decide⟩) (by omega) (ls_at hL) rfl rfl hl.1 rfl (Nat.le_of_ble_eq_true rfl) dL_isSaved_134 ⟨Nat.zero_le _, Nat.zero_le _⟩ (fun r3 C3 H locs hq hP hS => ?_)
      obtain ⟨hr3, hL3, hz3⟩ := hq
      have hH3 := hz3.trans hH
      have hr3 := hr3.trans (show va_up sl 1 f 1 4 = f 4 by rw [va_up_self])
      subst hr3
      rw [va_up_self] at hL3
      refine lv_iload F.1 F.2.1 dL_isSaved_137 (lv_at hl 1 rfl) ?_
      refine lv_icmp_ne (tgt := 146) F.1 F.2.1 dL_isSaved_139 (by decide) (fun c29 => False.elim (c29 rfl)) (fun c29 => ?_)
      refine lv_iconst (v := 1) F.1 F.2.1 dL_isSaved_142 (by decide) ?_
      refine lv_goto (tgt := 147) F.1 F.2.1 dL_isSaved_143 (by decide) ?_
      exact w_zret F hr hlocks hP hS (Or.inr rfl) dL_isSaved_147 ⟨rfl, hL3, _, hH3⟩
