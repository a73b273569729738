/-! p25: isRolled: on to the end, as it was told -/
def RI (f : Nat → Int32) (p0 n i : Nat) (g : Nat → Int32) (ms : Int32) : Prop :=
  g 5 = 1 ∧ g 4 = nI n ∧ ((g 11 = 0 ∧ T_roll (20 - i) g ms = T_roll 20 f 0 ∧ g 10 = nI (p0 + i) ∧ (i = 0 ∨ p0 + i < n)) ∨ (¬ g 11 = 0 ∧ ag g (T_roll 20 f 0).1 ∧ ms = (T_roll 20 f 0).2))
theorem hw_0 {f : Nat → Int32} {k : Nat} (h : T_hw f k = 0) : (T_meet k f).2 = 0 ∧ f 10 + 1 < f 4 := by
  unfold T_hw at h
  by_cases a : (T_meet k f).2 = 0
  · rw [if_pos a] at h
    by_cases b : f 0 ≤ iabs ((T_meet k f).1 8)
    · rw [if_pos b] at h; exact absurd h (by decide)
    · rw [if_neg b] at h
      by_cases c : f 10 + 1 < f 4
      · exact ⟨a, c⟩
      · rw [if_neg c] at h; exact absurd h (by decide)
  · rw [if_neg a] at h; exact absurd h a
theorem hw_23 {f : Nat → Int32} {k : Nat} : (T_hw f k = 2 ∨ T_hw f k = 3) ↔ ¬ (T_meet k f).2 = 0 := by
  unfold T_hw
  by_cases a : (T_meet k f).2 = 0
  · rw [if_pos a]
    by_cases b : f 0 ≤ iabs ((T_meet k f).1 8)
    · rw [if_pos b]; exact ⟨fun q => q.elim (fun z => absurd z (by decide)) (fun z => absurd z (by decide)), fun q => absurd a q⟩
    · rw [if_neg b]
      by_cases c : f 10 + 1 < f 4
      · rw [if_pos c]; exact ⟨fun q => q.elim (fun z => absurd z (by decide)) (fun z => absurd z (by decide)), fun q => absurd a q⟩
      · rw [if_neg c]; exact ⟨fun q => q.elim (fun z => absurd z (by decide)) (fun z => absurd z (by decide)), fun q => absurd a q⟩
  · rw [if_neg a]
    refine ⟨fun _ => a, fun _ => ?_⟩
    rcases T_meet_how k f with z | z | z
    · exact absurd z a
    · exact Or.inl z
    · exact Or.inr z
/-- the greatest lean behind a part -/
theorem st_ms {B : Int} {g g2 : Nat → Int32} {ms : Int32} {k n : Nat} (hok : okRow B g) (hB : B + 25 ≤ 900000000) (h5 : g 5 = 1) (h11 : g 11 = 0) (h10 : g 10 = nI k) (h4 : g 4 = nI n) (hkn : k < n) (hn : n ≤ 20) (eg : T_rolled 1 g 0 = g2) : (T_step g ms).2 = (if g2 11 = 2 ∨ g2 11 = 3 then ms else if ms < iabs (g2 8) then iabs (g2 8) else ms) := by
  obtain ⟨-, -, -, -, -, -, m8, -, m11, -⟩ := ip_facts hok hB h5 h11 h10 h4 hkn hn eg
  rw [(step_at (g := ms) h10 h4 hkn hn h11).2.2.2, m8, m11]
  by_cases a : (T_meet k g).2 = 0
  · rw [if_pos a, if_neg (fun q => (hw_23.mp q) a)]
  · rw [if_neg a, if_pos (hw_23.mpr a)]
theorem rolled_past {B : Int} {g : Nat → Int32} (hok : okRow B g) (hB : B + 25 ≤ 900000000) (h5 : g 5 = 1) (h11 : g 11 = 0) (h : ¬ g 10 < g 4) : T_rolled 1 g 0 11 = 4 := by
  rw [(rolled1_ag hok hB h5 h11).1 11 (by decide), step_past h]
  show upd g 11 4 11 = 4
  exact upd_s
theorem ri_next {B : Int} {f g : Nat → Int32} {ms : Int32} {p0 n i : Nat} (hok : okRow B g) (hB : B + 25 ≤ 900000000) (hn : n ≤ 20) (hp : p0 + i ≤ n) (h5 : g 5 = 1) (h4 : g 4 = nI n) (h11 : g 11 = 0) (hT : T_roll (20 - i) g ms = T_roll 20 f 0) (h10 : g 10 = nI (p0 + i)) (hio : i = 0 ∨ p0 + i < n) : RI f p0 n (i + 1) (T_rolled 1 g 0) (T_step g ms).2 ∧ i < 20 := by
  have hi : i < 20 := by omega
  have hT2 := T_roll_s 20 i g f ms 0 hT hi h11
  have ea := (rolled1_ag hok hB h5 h11).1
  have e5 : T_rolled 1 g 0 5 = 1 := by
    rw [ea 5 (by decide), T_step_fr (by decide) (by decide) (by decide) (by decide) (by decide), h5]
  have e4 : T_rolled 1 g 0 4 = nI n := by
    rw [ea 4 (by decide), T_step_fr (by decide) (by decide) (by decide) (by decide) (by decide), h4]
  refine ⟨⟨e5, e4, ?_⟩, hi⟩
  have eg : (T_step g ms).1 = (T_step g 0).1 := step_g
  rcases rolled1 hok hB h5 h11 with ⟨r0, r1⟩ | ⟨r0, rE, r1⟩
  · left
    have hkn : p0 + i < n := by
      by_cases z : p0 + i < n
      · exact z
      · have q := step_past (f := g) (g := 0) (by rw [h10, h4]; exact nI_nlt (by omega) (by omega))
        rw [q] at r0
        exact absurd ((upd_s (f := g) (k := 11) (x := (4 : Int32))).symm.trans r0) (by decide)
    obtain ⟨s1, s2, s3, s4⟩ := step_at (g := 0) h10 h4 hkn hn h11
    rw [s1] at r0
    obtain ⟨-, q⟩ := hw_0 r0
    rw [h10, h4, ← nI_succ] at q
    have q := (nI_ltI (a := p0 + i + 1) (b := n) (by omega) (by omega)).mp q
    rw [r1, ← eg]
    refine ⟨by rw [eg, s1]; exact r0, hT2, ?_, Or.inr (by omega)⟩
    rw [eg, s3, if_pos (Or.inl r0), h10, ← nI_succ]
    rfl
  · right
    have hX : T_step g ms = T_roll 20 f 0 := by
      rw [← hT2]
      have q := roll_over (f := (T_step g ms).1) (g := (T_step g ms).2) (20 - (i + 1)) (by rw [eg]; exact r0)
      exact q.symm
    rw [r1]
    refine ⟨?_, ?_, ?_⟩
    · rw [(ag_ends rE).1 11 (by decide)]; exact r0
    · rw [← hX, eg]; exact ag_ends rE
    · rw [hX]
theorem pl_n {B : Int} {f : Nat → Int32} {k n : Nat} (h : okRow B f) (h5 : f 5 = 1) (h10 : f 10 = nI k) (h4 : f 4 = nI n) (hk : k < 2 ^ 31) (hn : n < 2 ^ 31) : k ≤ n := by
  have a := (h.2.2.1 h5).2.2.2.1.2
  rw [h10, h4, nI_toInt hk, nI_toInt hn] at a
  omega
set_option maxRecDepth 20000 in
set_option maxHeartbeats 4000000 in
/-- on to the end, as it was told -/
theorem c_L_isRolled (l : Launch) (D : va_G) (Y : Nat → ClassId) (ad : Nat → Nat) (N : Nat) (hI : wI ad N) (C : Nat → va_E) (hN : 171 ≤ N) {f : Nat → Int32} {sl : Nat → Nat → Int32} {sv : Nat → Int32} (hL : kLS Y ad C f sl sv) {hv : Nat → Int32} (hH : C 170 = .inl (Y 0, 8, .inl hv)) {B : Int} (hJ : J B f) (hB0 : 0 ≤ B) (hB : B + 6000 ≤ 900000000) (h5 : f 5 = 1) (h11 : f 11 = 0) : Met l yL_isRolled (wm yL_isRolled cL_isRolled 13 (some .boolean)) { frames := 8, cells := 0, slots := 0, locals := 181 } (wPc D Y ad N [.ref (ad 0), .ref (ad 170)] C) (wQi D ad N (fun r C' => r = 1 ∧ kLT Y ad C' f (va_up sl 0 f) (upd sv 0 1))) 0 0 (wA ad N) := by
  obtain ⟨p0, n, h10, h4, hp0, hn, e4n, -⟩ := pl_at hJ.1 h5
  have hok := hJ.1
  refine wMet RL rfl (by decide +kernel) (Nat.le_of_ble_eq_true rfl) (lv := [(0, .ref (ad 0)), (1, .ref (ad 170))]) rfl ?_
  intro p e s m below meth c ls F hr hlocks hP hl
  have hS : va_S (wA ad N) s.heap s.heap [] := va_S.rf
  refine lv_aload_n F.1 F.2.1 dL_isRolled_0 rfl (lv_at hl 0 rfl) ?_
  refine lv_iconst (v := 0) F.1 F.2.1 dL_isRolled_1 (by decide) ?_
  refine w_calli F hP hS (k_ifRolled l D Y ad N hI hN _ hL 0 hJ.1 (by omega) hB0) (cwVm 1 F.2.2.2.2.1 (fun _ h => h) mw_509 mw_743 mw_507 mw_508 mw_2 rfl rfl ydX7_ifRolled ⟨by decide, by decide⟩) (by omega) (ls_at hL) rfl rfl hl.1 rfl (Nat.le_of_ble_eq_true rfl) dL_isRolled_2 ⟨Nat.zero_le _, Nat.zero_le _⟩ (fun r1 C1 H locs hq hP hS => ?_)
  obtain ⟨hr1, hL1, hz1⟩ := hq
  have hH1 := hz1.trans hH
  have hr1 := hr1.trans (ifr_0 h5 h11)
  subst hr1
  refine lv_istore_n (lv' := [(2, .int ((T_roll 20 f 0).1 11)), (0, .ref (ad 0)), (1, .ref (ad 170))]) F.1 F.2.1 dL_isRolled_5 rfl hl (by decide) rfl (fun ls hl => ?_)
  refine lv_aload_n F.1 F.2.1 dL_isRolled_6 rfl (lv_at hl 1 rfl) ?_
  refine lv_iconst (v := 1) F.1 F.2.1 dL_isRolled_7 (by decide) ?_
  refine w_calli F hP hS (k_ifRolled l D Y ad N hI hN _ hL1 1 hJ.1 (by omega) hB0) (cwVm 1 F.2.2.2.2.1 (fun _ h => h) mw_509 mw_743 mw_507 mw_508 mw_2 rfl rfl ydX7_ifRolled ⟨by decide, by decide⟩) (by omega) (ls_at hL1) rfl rfl hl.1 rfl (Nat.le_of_ble_eq_true rfl) dL_isRolled_8 ⟨Nat.zero_le _, Nat.zero_le _⟩ (fun r2 C2 H locs hq hP hS => ?_)
  obtain ⟨hr2, hL2, hz2⟩ := hq
  have hH2 := hz2.trans hH1
  have hr2 := hr2.trans (ifr_1 h5 h11)
  subst hr2
  refine lv_istore_n (lv' := [(3, .int ((T_roll 20 f 0).1 10)), (2, .int ((T_roll 20 f 0).1 11)), (0, .ref (ad 0)), (1, .ref (ad 170))]) F.1 F.2.1 dL_isRolled_11 rfl hl (by decide) rfl (fun ls hl => ?_)
  refine lv_aload_n F.1 F.2.1 dL_isRolled_12 rfl (lv_at hl 2 rfl) ?_
  refine lv_iconst (v := 2) F.1 F.2.1 dL_isRolled_13 (by decide) ?_
  refine w_calli F hP hS (k_ifRolled l D Y ad N hI hN _ hL2 2 hJ.1 (by omega) hB0) (cwVm 1 F.2.2.2.2.1 (fun _ h => h) mw_509 mw_743 mw_507 mw_508 mw_2 rfl rfl ydX7_ifRolled ⟨by decide, by decide⟩) (by omega) (ls_at hL2) rfl rfl hl.1 rfl (Nat.le_of_ble_eq_true rfl) dL_isRolled_14 ⟨Nat.zero_le _, Nat.zero_le _⟩ (fun r3 C3 H locs hq hP hS => ?_)
  obtain ⟨hr3, hL3, hz3⟩ := hq
  have hH3 := hz3.trans hH2
  have hr3 := hr3.trans (ifr_2 h5 h11)
  subst hr3
  refine lv_istore (lv' := [(4, .int ((T_roll 20 f 0).1 7)), (3, .int ((T_roll 20 f 0).1 10)), (2, .int ((T_roll 20 f 0).1 11)), (0, .ref (ad 0)), (1, .ref (ad 170))]) F.1 F.2.1 dL_isRolled_17 hl (by decide) rfl (fun ls hl => ?_)
  refine lv_aload_n F.1 F.2.1 dL_isRolled_19 rfl (lv_at hl 3 rfl) ?_
  refine lv_iconst (v := 3) F.1 F.2.1 dL_isRolled_20 (by decide) ?_
  refine w_calli F hP hS (k_ifRolled l D Y ad N hI hN _ hL3 3 hJ.1 (by omega) hB0) (cwVm 1 F.2.2.2.2.1 (fun _ h => h) mw_509 mw_743 mw_507 mw_508 mw_2 rfl rfl ydX7_ifRolled ⟨by decide, by decide⟩) (by omega) (ls_at hL3) rfl rfl hl.1 rfl (Nat.le_of_ble_eq_true rfl) dL_isRolled_21 ⟨Nat.zero_le _, Nat.zero_le _⟩ (fun r4 C4 H locs hq hP hS => ?_)
  obtain ⟨hr4, hL4, hz4⟩ := hq
  have hH4 := hz4.trans hH3
  have hr4 := hr4.trans (ifr_3 h5 h11)
  subst hr4
  refine lv_istore (lv' := [(5, .int ((T_roll 20 f 0).2)), (4, .int ((T_roll 20 f 0).1 7)), (3, .int ((T_roll 20 f 0).1 10)), (2, .int ((T_roll 20 f 0).1 11)), (0, .ref (ad 0)), (1, .ref (ad 170))]) F.1 F.2.1 dL_isRolled_24 hl (by decide) rfl (fun ls hl => ?_)
  refine lv_aload_n F.1 F.2.1 dL_isRolled_26 rfl (lv_at hl 4 rfl) ?_
  refine lv_iconst (v := 0) F.1 F.2.1 dL_isRolled_27 (by decide) ?_
  refine w_calli F hP hS (k_save l D Y ad N hI hN _ hL4 0 (by decide)) (cwVm 1 F.2.2.2.2.1 (fun _ h => h) mw_690 mw_742 mw_688 mw_689 mw_2 rfl rfl ydX7_save ⟨by decide, by decide⟩) (by omega) (ls_at hL4) rfl rfl hl.1 rfl (Nat.le_of_ble_eq_true rfl) dL_isRolled_28 ⟨Nat.zero_le _, Nat.zero_le _⟩ (fun r5 C5 H locs hq hP hS => ?_)
  obtain ⟨hr5, hL5, hz5⟩ := hq
  have hH5 := hz5.trans hH4
  have hr5 := hr5.trans h4
  subst hr5
  refine lv_istore (lv' := [(6, .int (nI n)), (5, .int ((T_roll 20 f 0).2)), (4, .int ((T_roll 20 f 0).1 7)), (3, .int ((T_roll 20 f 0).1 10)), (2, .int ((T_roll 20 f 0).1 11)), (0, .ref (ad 0)), (1, .ref (ad 170))]) F.1 F.2.1 dL_isRolled_31 hl (by decide) rfl (fun ls hl => ?_)
  refine lv_iconst (v := 0) F.1 F.2.1 dL_isRolled_33 (by decide) ?_
  refine lv_istore (lv' := [(7, .int (0)), (6, .int (nI n)), (5, .int ((T_roll 20 f 0).2)), (4, .int ((T_roll 20 f 0).1 7)), (3, .int ((T_roll 20 f 0).1 10)), (2, .int ((T_roll 20 f 0).1 11)), (0, .ref (ad 0)), (1, .ref (ad 170))]) F.1 F.2.1 dL_isRolled_34 hl (by decide) rfl (fun ls hl => ?_)
  refine lv_iload F.1 F.2.1 dL_isRolled_36 (lv_at hl 1 rfl) ?_
  refine lv_aload_n F.1 F.2.1 dL_isRolled_38 rfl (lv_at hl 6 rfl) ?_
  refine lv_iconst (v := 0) F.1 F.2.1 dL_isRolled_39 (by decide) ?_
  refine w_calli F hP hS (k_count l D Y ad N hI hN _ hL5 0 (by decide) hJ.1) (cwVm 1 F.2.2.2.2.1 (fun _ h => h) mw_482 mw_716 mw_480 mw_481 mw_2 rfl rfl ydX7_count ⟨by decide, by decide⟩) (by omega) (ls_at hL5) rfl rfl hl.1 rfl (Nat.le_of_ble_eq_true rfl) dL_isRolled_40 ⟨Nat.zero_le _, Nat.zero_le _⟩ (fun r6 C2 H locs hq hP hS => ?_)
  obtain ⟨hw6, hr6⟩ := hq; rw [hw6] at hP
  have hr6 := hr6.trans (cn_0.trans h4)
  subst hr6
  refine lv_icmp_ne (tgt := 50) F.1 F.2.1 dL_isRolled_43 (by decide) (fun c1 => False.elim (c1 rfl)) (fun c1 => ?_)
  refine lv_iconst (v := 1) F.1 F.2.1 dL_isRolled_46 (by decide) ?_
  refine lv_goto (tgt := 51) F.1 F.2.1 dL_isRolled_47 (by decide) ?_
  refine lv_istore (lv' := [(8, .int (1)), (7, .int (0)), (6, .int (nI n)), (5, .int ((T_roll 20 f 0).2)), (4, .int ((T_roll 20 f 0).1 7)), (3, .int ((T_roll 20 f 0).1 10)), (2, .int ((T_roll 20 f 0).1 11)), (0, .ref (ad 0)), (1, .ref (ad 170))]) F.1 F.2.1 dL_isRolled_51 hl (by decide) rfl (fun ls hl => ?_)
  refine lv_iconst (v := 0) F.1 F.2.1 dL_isRolled_53 (by decide) ?_
  refine lv_istore (lv' := [(9, .int (0)), (8, .int (1)), (7, .int (0)), (6, .int (nI n)), (5, .int ((T_roll 20 f 0).2)), (4, .int ((T_roll 20 f 0).1 7)), (3, .int ((T_roll 20 f 0).1 10)), (2, .int ((T_roll 20 f 0).1 11)), (0, .ref (ad 0)), (1, .ref (ad 170))]) F.1 F.2.1 dL_isRolled_54 hl (by decide) rfl (fun ls hl => ?_)
  refine w_loop (Inv := fun j ls C' => ∃ (i : Nat) (g hw : Nat → Int32) (ms : Int32), j = 22 - i ∧ i ≤ 20 ∧ RI f p0 n i g ms ∧ J (B + 25 * i) g ∧ kLS Y ad C' g (va_up sl 0 f) (upd sv 0 1) ∧ C' 170 = .inl (Y 0, 8, .inl hw) ∧ lv_has ls 13 [(9, .int (nI i)), (8, .int 1), (7, .int (ms)), (6, .int (nI n)), (5, .int (T_roll 20 f 0).2), (4, .int ((T_roll 20 f 0).1 7)), (3, .int ((T_roll 20 f 0).1 10)), (2, .int ((T_roll 20 f 0).1 11)), (1, .ref (ad 170)), (0, .ref (ad 0))]) ?_ 22 ⟨0, f, hv, 0, rfl, Nat.zero_le _, ⟨h5, h4, Or.inl ⟨h11, rfl, h10, Or.inl rfl⟩⟩, J_mono (by omega) hJ, hL5, hH5, lv_sub hl [0, 1, 2, 3, 4, 5, 6, 7, 9, 8] rfl⟩ hP hS
  intro j ih H locs ls K0 hInv hP hS
  obtain ⟨i, g, hw, ms, hj, hi, ⟨hg5, hg4, hRI⟩, hJg, hL, hH, hl⟩ := hInv
  refine lv_iload F.1 F.2.1 dL_isRolled_56 (lv_at hl 0 rfl) ?_
  refine lv_bipush (v := 22) F.1 F.2.1 dL_isRolled_58 (by decide) ?_
  refine lv_icmp_ge (tgt := 182) F.1 F.2.1 dL_isRolled_60 (by decide) (fun c2 => False.elim (nI_ge (b := 22) (by omega) (by decide) c2)) (fun c2 => ?_)
  rcases hRI with ⟨hg11, hT, hg10, hio⟩ | ⟨hg11, hag, hms⟩
  · have hpn : p0 + i ≤ n := pl_n hJg.1 hg5 hg10 hg4 (by omega) (by omega)
    obtain ⟨hRI2, hi20⟩ := ri_next hJg.1 (by omega) hn hpn hg5 hg4 hg11 hT hg10 hio
    have hJ2 : J (B + 25 * ((i + 1 : Nat) : Int)) (T_rolled 1 g 0) := J_mono (by omega) (J_roll1 hJg (by omega) (by omega) hg5 hg11)
    obtain ⟨g2, eg2⟩ : ∃ z, T_rolled 1 g 0 = z := ⟨_, rfl⟩
    have hok2 := hJ2.1
    rw [eg2] at hok2
    have hg25 : g2 5 = 1 := by have q := hRI2.1; rw [eg2] at q; exact q
    refine lv_iload F.1 F.2.1 dL_isRolled_63 (lv_at hl 1 rfl) ?_
    refine lv_if_eq (tgt := 182) F.1 F.2.1 dL_isRolled_65 (by decide) (fun c3 => False.elim (by revert c3; decide)) (fun c3 => ?_)
    refine lv_aload_n F.1 F.2.1 dL_isRolled_68 rfl (lv_at hl 9 rfl) ?_
    refine lv_iconst (v := 5) F.1 F.2.1 dL_isRolled_69 (by decide) ?_
    refine w_calli F hP hS (k_ofHoop l D Y ad N hI hN _ hL 5) (cwVm 1 F.2.2.2.2.1 (fun _ h => h) mw_454 mw_719 mw_452 mw_453 mw_2 rfl rfl ydX7_ofHoop ⟨by decide, by decide⟩) (by omega) (ls_at hL) rfl rfl hl.1 rfl (Nat.le_of_ble_eq_true rfl) dL_isRolled_70 ⟨Nat.zero_le _, Nat.zero_le _⟩ (fun r7 C2 H locs hq hP hS => ?_)
    obtain ⟨hw7, hr7⟩ := hq; rw [hw7] at hP
    have hr7 := hr7.trans ((oh_5 hg5).trans hg11)
    subst hr7
    refine lv_if_ne (tgt := 182) F.1 F.2.1 dL_isRolled_73 (by decide) (fun c4 => False.elim (by revert c4; decide)) (fun c4 => ?_)
    refine lv_aload_n F.1 F.2.1 dL_isRolled_76 rfl (lv_at hl 9 rfl) ?_
    refine lv_iconst (v := 4) F.1 F.2.1 dL_isRolled_77 (by decide) ?_
    refine w_calli F hP hS (k_ofHoop l D Y ad N hI hN _ hL 4) (cwVm 1 F.2.2.2.2.1 (fun _ h => h) mw_454 mw_719 mw_452 mw_453 mw_2 rfl rfl ydX7_ofHoop ⟨by decide, by decide⟩) (by omega) (ls_at hL) rfl rfl hl.1 rfl (Nat.le_of_ble_eq_true rfl) dL_isRolled_78 ⟨Nat.zero_le _, Nat.zero_le _⟩ (fun r8 C2 H locs hq hP hS => ?_)
    obtain ⟨hw8, hr8⟩ := hq; rw [hw8] at hP
    have hr8 := hr8.trans ((oh_4 hg5).trans hg10)
    subst hr8
    refine lv_iload F.1 F.2.1 dL_isRolled_81 (lv_at hl 3 rfl) ?_
    refine lv_icmp_ne (tgt := 90) F.1 F.2.1 dL_isRolled_83 (by decide) (fun c5 => ?_) (fun c5 => ?_)
    · refine lv_iconst (v := 0) F.1 F.2.1 dL_isRolled_90 (by decide) ?_
      refine lv_istore (lv' := [(10, .int (0)), (9, .int (nI i)), (8, .int (1)), (7, .int (ms)), (6, .int (nI n)), (5, .int ((T_roll 20 f 0).2)), (4, .int ((T_roll 20 f 0).1 7)), (3, .int ((T_roll 20 f 0).1 10)), (2, .int ((T_roll 20 f 0).1 11)), (1, .ref (ad 170)), (0, .ref (ad 0))]) F.1 F.2.1 dL_isRolled_91 hl (by decide) rfl (fun ls hl => ?_)
      refine lv_iload F.1 F.2.1 dL_isRolled_93 (lv_at hl 0 rfl) ?_
      refine lv_if_eq (tgt := 115) F.1 F.2.1 dL_isRolled_95 (by decide) (fun c6 => ?_) (fun c6 => False.elim (by revert c6; decide))
      have hkn : p0 + i < n := by have z : ¬ p0 + i = n := fun z => c5 (by rw [z]); omega
      have hlt : g 10 < g 4 := by rw [hg10, hg4]; exact nI_lt hkn (by omega)
      have hst := st_ms (ms := ms) hJg.1 (by omega) hg5 hg11 hg10 hg4 hkn hn eg2
      refine lv_aload_n F.1 F.2.1 dL_isRolled_115 rfl (lv_at hl 10 rfl) ?_
      refine lv_aload_n F.1 F.2.1 dL_isRolled_116 rfl (lv_at hl 9 rfl) ?_
      refine w_calls F hP hS (c_L_isPart l D Y ad N hI _ hN hL hH hJg (by omega) (by omega) hg5 hg11 hlt) (cwSm 2 F.2.2.2.2.1 (fun _ h => h) mw_755 mw_753 mw_754 mw_714 rfl rfl ydL_isPart ⟨by decide, by decide⟩) rfl hl.1 rfl (Nat.le_of_ble_eq_true rfl) dL_isRolled_117 ⟨Nat.zero_le _, Nat.zero_le _⟩ (fun r9 C9 H locs hq hP hS => ?_)
      obtain ⟨hr9, hL9, hvx9, hH9⟩ := hq
      subst hr9
      rw [eg2] at hL9
      refine lv_istore (lv' := [(8, .int (1)), (10, .int (0)), (9, .int (nI i)), (7, .int (ms)), (6, .int (nI n)), (5, .int ((T_roll 20 f 0).2)), (4, .int ((T_roll 20 f 0).1 7)), (3, .int ((T_roll 20 f 0).1 10)), (2, .int ((T_roll 20 f 0).1 11)), (1, .ref (ad 170)), (0, .ref (ad 0))]) F.1 F.2.1 dL_isRolled_120 hl (by decide) rfl (fun ls hl => ?_)
      refine lv_aload_n F.1 F.2.1 dL_isRolled_122 rfl (lv_at hl 10 rfl) ?_
      refine lv_iconst (v := 5) F.1 F.2.1 dL_isRolled_123 (by decide) ?_
      refine w_calli F hP hS (k_ofHoop l D Y ad N hI hN _ hL9 5) (cwVm 1 F.2.2.2.2.1 (fun _ h => h) mw_454 mw_719 mw_452 mw_453 mw_2 rfl rfl ydX7_ofHoop ⟨by decide, by decide⟩) (by omega) (ls_at hL9) rfl rfl hl.1 rfl (Nat.le_of_ble_eq_true rfl) dL_isRolled_124 ⟨Nat.zero_le _, Nat.zero_le _⟩ (fun r10 C2 H locs hq hP hS => ?_)
      obtain ⟨hw10, hr10⟩ := hq; rw [hw10] at hP
      have hr10 := hr10.trans (oh_5 hg25)
      subst hr10
      refine lv_istore (lv' := [(11, .int (g2 11)), (8, .int (1)), (10, .int (0)), (9, .int (nI i)), (7, .int (ms)), (6, .int (nI n)), (5, .int ((T_roll 20 f 0).2)), (4, .int ((T_roll 20 f 0).1 7)), (3, .int ((T_roll 20 f 0).1 10)), (2, .int ((T_roll 20 f 0).1 11)), (1, .ref (ad 170)), (0, .ref (ad 0))]) F.1 F.2.1 dL_isRolled_127 hl (by decide) rfl (fun ls hl => ?_)
      refine lv_aload_n F.1 F.2.1 dL_isRolled_129 rfl (lv_at hl 11 rfl) ?_
      refine lv_iconst (v := 2) F.1 F.2.1 dL_isRolled_130 (by decide) ?_
      refine w_calli F hP hS (k_ofHoop l D Y ad N hI hN _ hL9 2) (cwVm 1 F.2.2.2.2.1 (fun _ h => h) mw_454 mw_719 mw_452 mw_453 mw_2 rfl rfl ydX7_ofHoop ⟨by decide, by decide⟩) (by omega) (ls_at hL9) rfl rfl hl.1 rfl (Nat.le_of_ble_eq_true rfl) dL_isRolled_131 ⟨Nat.zero_le _, Nat.zero_le _⟩ (fun r11 C2 H locs hq hP hS => ?_)
      obtain ⟨hw11, hr11⟩ := hq; rw [hw11] at hP
      have hr11 := hr11.trans (oh_2 hg25)
      subst hr11
      refine lv_sipush (v := 500) F.1 F.2.1 dL_isRolled_134 (by decide) ?_
      refine lv_isub F.1 F.2.1 dL_isRolled_137 ?_
      refine lv_topi (fun v7 ev7 => ?_)
      have ev7 : v7 = g2 8 := ev7.trans (re_add _)
      subst ev7
      refine w_calls F hP hS (c_L_size l D Y ad N hI _ (g2 8)) (cwSm 1 F.2.2.2.2.1 (fun _ h => h) mw_758 mw_756 mw_757 mw_714 rfl rfl ydL_size ⟨by decide, by decide⟩) rfl hl.1 rfl (Nat.le_of_ble_eq_true rfl) dL_isRolled_138 ⟨Nat.zero_le _, Nat.zero_le _⟩ (fun r12 C2 H locs hq hP hS => ?_)
      obtain ⟨hw12, hr12⟩ := hq; rw [hw12] at hP
      subst hr12
      refine lv_istore (lv' := [(12, .int (iabs (g2 8))), (11, .int (g2 11)), (8, .int (1)), (10, .int (0)), (9, .int (nI i)), (7, .int (ms)), (6, .int (nI n)), (5, .int ((T_roll 20 f 0).2)), (4, .int ((T_roll 20 f 0).1 7)), (3, .int ((T_roll 20 f 0).1 10)), (2, .int ((T_roll 20 f 0).1 11)), (1, .ref (ad 170)), (0, .ref (ad 0))]) F.1 F.2.1 dL_isRolled_141 hl (by decide) rfl (fun ls hl => ?_)
      refine lv_iload F.1 F.2.1 dL_isRolled_143 (lv_at hl 3 rfl) ?_
      refine lv_if_ne (tgt := 172) F.1 F.2.1 dL_isRolled_145 (by decide) (fun c8 => False.elim (by revert c8; decide)) (fun c8 => ?_)
      refine lv_iload F.1 F.2.1 dL_isRolled_148 (lv_at hl 1 rfl) ?_
      refine lv_iconst (v := 2) F.1 F.2.1 dL_isRolled_150 (by decide) ?_
      refine lv_icmp_eq (tgt := 172) F.1 F.2.1 dL_isRolled_151 (by decide) (fun c9 => ?_) (fun c9 => ?_)
      · refine lv_iload F.1 F.2.1 dL_isRolled_172 (lv_at hl 5 rfl) ?_
        refine lv_topi (fun v10 ev10 => ?_)
        have ev10 : v10 = (T_step g ms).2 := ev10.trans ((if_pos (Or.inl c9)).symm.trans hst.symm)
        subst ev10
        refine lv_istore (lv' := [(7, .int ((T_step g ms).2)), (12, .int (iabs (g2 8))), (11, .int (g2 11)), (8, .int (1)), (10, .int (0)), (9, .int (nI i)), (6, .int (nI n)), (5, .int ((T_roll 20 f 0).2)), (4, .int ((T_roll 20 f 0).1 7)), (3, .int ((T_roll 20 f 0).1 10)), (2, .int ((T_roll 20 f 0).1 11)), (1, .ref (ad 170)), (0, .ref (ad 0))]) F.1 F.2.1 dL_isRolled_174 hl (by decide) rfl (fun ls hl => ?_)
        refine lv_iinc (v := (nI i) + 1) (lv' := [(9, .int ((nI i) + 1)), (7, .int ((T_step g ms).2)), (12, .int (iabs (g2 8))), (11, .int (g2 11)), (8, .int (1)), (10, .int (0)), (6, .int (nI n)), (5, .int ((T_roll 20 f 0).2)), (4, .int ((T_roll 20 f 0).1 7)), (3, .int ((T_roll 20 f 0).1 10)), (2, .int ((T_roll 20 f 0).1 11)), (1, .ref (ad 170)), (0, .ref (ad 0))]) F.1 F.2.1 dL_isRolled_176 hl (k := 5) rfl rfl (by decide) rfl (fun ls hl => ?_)
        refine lv_goto (tgt := 56) F.1 F.2.1 dL_isRolled_179 (by decide) ?_
        exact ih _ (by omega) _ _ _ _ ⟨i + 1, g2, _, _, rfl, hi20, by rw [eg2] at hRI2; exact hRI2, by rw [eg2] at hJ2; exact hJ2, hL9, hH9, (by rw [nI_succ]; exact lv_sub hl [0, 4, 1, 6, 7, 8, 9, 10, 11, 12] rfl)⟩ hP hS
      · refine lv_iload F.1 F.2.1 dL_isRolled_154 (lv_at hl 1 rfl) ?_
        refine lv_iconst (v := 3) F.1 F.2.1 dL_isRolled_156 (by decide) ?_
        refine lv_icmp_eq (tgt := 172) F.1 F.2.1 dL_isRolled_157 (by decide) (fun c11 => ?_) (fun c11 => ?_)
        · refine lv_iload F.1 F.2.1 dL_isRolled_172 (lv_at hl 5 rfl) ?_
          refine lv_topi (fun v12 ev12 => ?_)
          have ev12 : v12 = (T_step g ms).2 := ev12.trans ((if_pos (Or.inr c11)).symm.trans hst.symm)
          subst ev12
          refine lv_istore (lv' := [(7, .int ((T_step g ms).2)), (12, .int (iabs (g2 8))), (11, .int (g2 11)), (8, .int (1)), (10, .int (0)), (9, .int (nI i)), (6, .int (nI n)), (5, .int ((T_roll 20 f 0).2)), (4, .int ((T_roll 20 f 0).1 7)), (3, .int ((T_roll 20 f 0).1 10)), (2, .int ((T_roll 20 f 0).1 11)), (1, .ref (ad 170)), (0, .ref (ad 0))]) F.1 F.2.1 dL_isRolled_174 hl (by decide) rfl (fun ls hl => ?_)
          refine lv_iinc (v := (nI i) + 1) (lv' := [(9, .int ((nI i) + 1)), (7, .int ((T_step g ms).2)), (12, .int (iabs (g2 8))), (11, .int (g2 11)), (8, .int (1)), (10, .int (0)), (6, .int (nI n)), (5, .int ((T_roll 20 f 0).2)), (4, .int ((T_roll 20 f 0).1 7)), (3, .int ((T_roll 20 f 0).1 10)), (2, .int ((T_roll 20 f 0).1 11)), (1, .ref (ad 170)), (0, .ref (ad 0))]) F.1 F.2.1 dL_isRolled_176 hl (k := 5) rfl rfl (by decide) rfl (fun ls hl => ?_)
          refine lv_goto (tgt := 56) F.1 F.2.1 dL_isRolled_179 (by decide) ?_
          exact ih _ (by omega) _ _ _ _ ⟨i + 1, g2, _, _, rfl, hi20, by rw [eg2] at hRI2; exact hRI2, by rw [eg2] at hJ2; exact hJ2, hL9, hH9, (by rw [nI_succ]; exact lv_sub hl [0, 4, 1, 6, 7, 8, 9, 10, 11, 12] rfl)⟩ hP hS
        · refine lv_iload F.1 F.2.1 dL_isRolled_160 (lv_at hl 0 rfl) ?_
          refine lv_iload F.1 F.2.1 dL_isRolled_162 (lv_at hl 5 rfl) ?_
          refine lv_icmp_le (tgt := 172) F.1 F.2.1 dL_isRolled_164 (by decide) (fun c13 => ?_) (fun c13 => ?_)
          · refine lv_iload F.1 F.2.1 dL_isRolled_172 (lv_at hl 5 rfl) ?_
            refine lv_topi (fun v14 ev14 => ?_)
            have ev14 : v14 = (T_step g ms).2 := ev14.trans ((if_neg (i_nlt c13)).symm.trans ((if_neg (fun q => q.elim c9 c11)).symm.trans hst.symm))
            subst ev14
            refine lv_istore (lv' := [(7, .int ((T_step g ms).2)), (12, .int (iabs (g2 8))), (11, .int (g2 11)), (8, .int (1)), (10, .int (0)), (9, .int (nI i)), (6, .int (nI n)), (5, .int ((T_roll 20 f 0).2)), (4, .int ((T_roll 20 f 0).1 7)), (3, .int ((T_roll 20 f 0).1 10)), (2, .int ((T_roll 20 f 0).1 11)), (1, .ref (ad 170)), (0, .ref (ad 0))]) F.1 F.2.1 dL_isRolled_174 hl (by decide) rfl (fun ls hl => ?_)
            refine lv_iinc (v := (nI i) + 1) (lv' := [(9, .int ((nI i) + 1)), (7, .int ((T_step g ms).2)), (12, .int (iabs (g2 8))), (11, .int (g2 11)), (8, .int (1)), (10, .int (0)), (6, .int (nI n)), (5, .int ((T_roll 20 f 0).2)), (4, .int ((T_roll 20 f 0).1 7)), (3, .int ((T_roll 20 f 0).1 10)), (2, .int ((T_roll 20 f 0).1 11)), (1, .ref (ad 170)), (0, .ref (ad 0))]) F.1 F.2.1 dL_isRolled_176 hl (k := 5) rfl rfl (by decide) rfl (fun ls hl => ?_)
            refine lv_goto (tgt := 56) F.1 F.2.1 dL_isRolled_179 (by decide) ?_
            exact ih _ (by omega) _ _ _ _ ⟨i + 1, g2, _, _, rfl, hi20, by rw [eg2] at hRI2; exact hRI2, by rw [eg2] at hJ2; exact hJ2, hL9, hH9, (by rw [nI_succ]; exact lv_sub hl [0, 4, 1, 6, 7, 8, 9, 10, 11, 12] rfl)⟩ hP hS
          · refine lv_iload F.1 F.2.1 dL_isRolled_167 (lv_at hl 0 rfl) ?_
            refine lv_goto (tgt := 174) F.1 F.2.1 dL_isRolled_169 (by decide) ?_
            refine lv_topi (fun v15 ev15 => ?_)
            have ev15 : v15 = (T_step g ms).2 := ev15.trans ((if_pos (i_lt c13)).symm.trans ((if_neg (fun q => q.elim c9 c11)).symm.trans hst.symm))
            subst ev15
            refine lv_istore (lv' := [(7, .int ((T_step g ms).2)), (12, .int (iabs (g2 8))), (11, .int (g2 11)), (8, .int (1)), (10, .int (0)), (9, .int (nI i)), (6, .int (nI n)), (5, .int ((T_roll 20 f 0).2)), (4, .int ((T_roll 20 f 0).1 7)), (3, .int ((T_roll 20 f 0).1 10)), (2, .int ((T_roll 20 f 0).1 11)), (1, .ref (ad 170)), (0, .ref (ad 0))]) F.1 F.2.1 dL_isRolled_174 hl (by decide) rfl (fun ls hl => ?_)
            refine lv_iinc (v := (nI i) + 1) (lv' := [(9, .int ((nI i) + 1)), (7, .int ((T_step g ms).2)), (12, .int (iabs (g2 8))), (11, .int (g2 11)), (8, .int (1)), (10, .int (0)), (6, .int (nI n)), (5, .int ((T_roll 20 f 0).2)), (4, .int ((T_roll 20 f 0).1 7)), (3, .int ((T_roll 20 f 0).1 10)), (2, .int ((T_roll 20 f 0).1 11)), (1, .ref (ad 170)), (0, .ref (ad 0))]) F.1 F.2.1 dL_isRolled_176 hl (k := 5) rfl rfl (by decide) rfl (fun ls hl => ?_)
            refine lv_goto (tgt := 56) F.1 F.2.1 dL_isRolled_179 (by decide) ?_
            exact ih _ (by omega) _ _ _ _ ⟨i + 1, g2, _, _, rfl, hi20, by rw [eg2] at hRI2; exact hRI2, by rw [eg2] at hJ2; exact hJ2, hL9, hH9, (by rw [nI_succ]; exact lv_sub hl [0, 4, 1, 6, 7, 8, 9, 10, 11, 12] rfl)⟩ hP hS
    · refine lv_iconst (v := 1) F.1 F.2.1 dL_isRolled_86 (by decide) ?_
      refine lv_goto (tgt := 91) F.1 F.2.1 dL_isRolled_87 (by decide) ?_
      refine lv_istore (lv' := [(10, .int (1)), (9, .int (nI i)), (8, .int (1)), (7, .int (ms)), (6, .int (nI n)), (5, .int ((T_roll 20 f 0).2)), (4, .int ((T_roll 20 f 0).1 7)), (3, .int ((T_roll 20 f 0).1 10)), (2, .int ((T_roll 20 f 0).1 11)), (1, .ref (ad 170)), (0, .ref (ad 0))]) F.1 F.2.1 dL_isRolled_91 hl (by decide) rfl (fun ls hl => ?_)
      refine lv_iload F.1 F.2.1 dL_isRolled_93 (lv_at hl 0 rfl) ?_
      refine lv_if_eq (tgt := 115) F.1 F.2.1 dL_isRolled_95 (by decide) (fun c16 => False.elim (by revert c16; decide)) (fun c16 => ?_)
      have hnl : ¬ g 10 < g 4 := by rw [hg10, hg4, c5]; exact nI_nlt (Nat.le_refl n) (by omega)
      refine lv_aload_n F.1 F.2.1 dL_isRolled_98 rfl (lv_at hl 10 rfl) ?_
      refine lv_iconst (v := 1) F.1 F.2.1 dL_isRolled_99 (by decide) ?_
      refine w_calli F hP hS (k_roll l D Y ad N hI hN _ hL hg5 hg11 hJg.1 (by omega) (by omega)) (cwVm 1 F.2.2.2.2.1 (fun _ h => h) mw_278 mw_720 mw_276 mw_277 mw_2 rfl rfl ydX7_roll ⟨by decide, by decide⟩) (by omega) (ls_at hL) rfl rfl hl.1 rfl (Nat.le_of_ble_eq_true rfl) dL_isRolled_100 ⟨Nat.zero_le _, Nat.zero_le _⟩ (fun r9 C9 H locs hq hP hS => ?_)
      obtain ⟨hr9, hL9, hz9⟩ := hq
      have hH9 := hz9.trans hH
      have hr9 := hr9.trans (rolled_past hJg.1 (by omega) hg5 hg11 hnl)
      subst hr9
      rw [eg2] at hL9
      refine lv_iconst (v := 4) F.1 F.2.1 dL_isRolled_103 (by decide) ?_
      refine lv_icmp_ne (tgt := 111) F.1 F.2.1 dL_isRolled_104 (by decide) (fun c17 => False.elim (by revert c17; decide)) (fun c17 => ?_)
      refine lv_iconst (v := 1) F.1 F.2.1 dL_isRolled_107 (by decide) ?_
      refine lv_goto (tgt := 120) F.1 F.2.1 dL_isRolled_108 (by decide) ?_
      refine lv_istore (lv' := [(8, .int (1)), (10, .int (1)), (9, .int (nI i)), (7, .int (ms)), (6, .int (nI n)), (5, .int ((T_roll 20 f 0).2)), (4, .int ((T_roll 20 f 0).1 7)), (3, .int ((T_roll 20 f 0).1 10)), (2, .int ((T_roll 20 f 0).1 11)), (1, .ref (ad 170)), (0, .ref (ad 0))]) F.1 F.2.1 dL_isRolled_120 hl (by decide) rfl (fun ls hl => ?_)
      refine lv_aload_n F.1 F.2.1 dL_isRolled_122 rfl (lv_at hl 10 rfl) ?_
      refine lv_iconst (v := 5) F.1 F.2.1 dL_isRolled_123 (by decide) ?_
      refine w_calli F hP hS (k_ofHoop l D Y ad N hI hN _ hL9 5) (cwVm 1 F.2.2.2.2.1 (fun _ h => h) mw_454 mw_719 mw_452 mw_453 mw_2 rfl rfl ydX7_ofHoop ⟨by decide, by decide⟩) (by omega) (ls_at hL9) rfl rfl hl.1 rfl (Nat.le_of_ble_eq_true rfl) dL_isRolled_124 ⟨Nat.zero_le _, Nat.zero_le _⟩ (fun r10 C2 H locs hq hP hS => ?_)
      obtain ⟨hw10, hr10⟩ := hq; rw [hw10] at hP
      have hr10 := hr10.trans (oh_5 hg25)
      subst hr10
      refine lv_istore (lv' := [(11, .int (g2 11)), (8, .int (1)), (10, .int (1)), (9, .int (nI i)), (7, .int (ms)), (6, .int (nI n)), (5, .int ((T_roll 20 f 0).2)), (4, .int ((T_roll 20 f 0).1 7)), (3, .int ((T_roll 20 f 0).1 10)), (2, .int ((T_roll 20 f 0).1 11)), (1, .ref (ad 170)), (0, .ref (ad 0))]) F.1 F.2.1 dL_isRolled_127 hl (by decide) rfl (fun ls hl => ?_)
      refine lv_aload_n F.1 F.2.1 dL_isRolled_129 rfl (lv_at hl 11 rfl) ?_
      refine lv_iconst (v := 2) F.1 F.2.1 dL_isRolled_130 (by decide) ?_
      refine w_calli F hP hS (k_ofHoop l D Y ad N hI hN _ hL9 2) (cwVm 1 F.2.2.2.2.1 (fun _ h => h) mw_454 mw_719 mw_452 mw_453 mw_2 rfl rfl ydX7_ofHoop ⟨by decide, by decide⟩) (by omega) (ls_at hL9) rfl rfl hl.1 rfl (Nat.le_of_ble_eq_true rfl) dL_isRolled_131 ⟨Nat.zero_le _, Nat.zero_le _⟩ (fun r11 C2 H locs hq hP hS => ?_)
      obtain ⟨hw11, hr11⟩ := hq; rw [hw11] at hP
      have hr11 := hr11.trans (oh_2 hg25)
      subst hr11
      refine lv_sipush (v := 500) F.1 F.2.1 dL_isRolled_134 (by decide) ?_
      refine lv_isub F.1 F.2.1 dL_isRolled_137 ?_
      refine lv_topi (fun v18 ev18 => ?_)
      have ev18 : v18 = g2 8 := ev18.trans (re_add _)
      subst ev18
      refine w_calls F hP hS (c_L_size l D Y ad N hI _ (g2 8)) (cwSm 1 F.2.2.2.2.1 (fun _ h => h) mw_758 mw_756 mw_757 mw_714 rfl rfl ydL_size ⟨by decide, by decide⟩) rfl hl.1 rfl (Nat.le_of_ble_eq_true rfl) dL_isRolled_138 ⟨Nat.zero_le _, Nat.zero_le _⟩ (fun r12 C2 H locs hq hP hS => ?_)
      obtain ⟨hw12, hr12⟩ := hq; rw [hw12] at hP
      subst hr12
      refine lv_istore (lv' := [(12, .int (iabs (g2 8))), (11, .int (g2 11)), (8, .int (1)), (10, .int (1)), (9, .int (nI i)), (7, .int (ms)), (6, .int (nI n)), (5, .int ((T_roll 20 f 0).2)), (4, .int ((T_roll 20 f 0).1 7)), (3, .int ((T_roll 20 f 0).1 10)), (2, .int ((T_roll 20 f 0).1 11)), (1, .ref (ad 170)), (0, .ref (ad 0))]) F.1 F.2.1 dL_isRolled_141 hl (by decide) rfl (fun ls hl => ?_)
      refine lv_iload F.1 F.2.1 dL_isRolled_143 (lv_at hl 3 rfl) ?_
      refine lv_if_ne (tgt := 172) F.1 F.2.1 dL_isRolled_145 (by decide) (fun c19 => ?_) (fun c19 => False.elim (by revert c19; decide))
      refine lv_iload F.1 F.2.1 dL_isRolled_172 (lv_at hl 5 rfl) ?_
      refine lv_topi (fun v20 ev20 => ?_)
      have ev20 : v20 = (T_step g ms).2 := ev20.trans (congrArg Prod.snd (step_past (g := ms) hnl)).symm
      subst ev20
      refine lv_istore (lv' := [(7, .int ((T_step g ms).2)), (12, .int (iabs (g2 8))), (11, .int (g2 11)), (8, .int (1)), (10, .int (1)), (9, .int (nI i)), (6, .int (nI n)), (5, .int ((T_roll 20 f 0).2)), (4, .int ((T_roll 20 f 0).1 7)), (3, .int ((T_roll 20 f 0).1 10)), (2, .int ((T_roll 20 f 0).1 11)), (1, .ref (ad 170)), (0, .ref (ad 0))]) F.1 F.2.1 dL_isRolled_174 hl (by decide) rfl (fun ls hl => ?_)
      refine lv_iinc (v := (nI i) + 1) (lv' := [(9, .int ((nI i) + 1)), (7, .int ((T_step g ms).2)), (12, .int (iabs (g2 8))), (11, .int (g2 11)), (8, .int (1)), (10, .int (1)), (6, .int (nI n)), (5, .int ((T_roll 20 f 0).2)), (4, .int ((T_roll 20 f 0).1 7)), (3, .int ((T_roll 20 f 0).1 10)), (2, .int ((T_roll 20 f 0).1 11)), (1, .ref (ad 170)), (0, .ref (ad 0))]) F.1 F.2.1 dL_isRolled_176 hl (k := 5) rfl rfl (by decide) rfl (fun ls hl => ?_)
      refine lv_goto (tgt := 56) F.1 F.2.1 dL_isRolled_179 (by decide) ?_
      exact ih _ (by omega) _ _ _ _ ⟨i + 1, g2, _, _, rfl, hi20, by rw [eg2] at hRI2; exact hRI2, by rw [eg2] at hJ2; exact hJ2, hL9, hH9, (by rw [nI_succ]; exact lv_sub hl [0, 4, 1, 6, 7, 8, 9, 10, 11, 12] rfl)⟩ hP hS
  · refine lv_iload F.1 F.2.1 dL_isRolled_63 (lv_at hl 1 rfl) ?_
    refine lv_if_eq (tgt := 182) F.1 F.2.1 dL_isRolled_65 (by decide) (fun c21 => False.elim (by revert c21; decide)) (fun c21 => ?_)
    refine lv_aload_n F.1 F.2.1 dL_isRolled_68 rfl (lv_at hl 9 rfl) ?_
    refine lv_iconst (v := 5) F.1 F.2.1 dL_isRolled_69 (by decide) ?_
    refine w_calli F hP hS (k_ofHoop l D Y ad N hI hN _ hL 5) (cwVm 1 F.2.2.2.2.1 (fun _ h => h) mw_454 mw_719 mw_452 mw_453 mw_2 rfl rfl ydX7_ofHoop ⟨by decide, by decide⟩) (by omega) (ls_at hL) rfl rfl hl.1 rfl (Nat.le_of_ble_eq_true rfl) dL_isRolled_70 ⟨Nat.zero_le _, Nat.zero_le _⟩ (fun r7 C2 H locs hq hP hS => ?_)
    obtain ⟨hw7, hr7⟩ := hq; rw [hw7] at hP
    have hr7 := hr7.trans ((oh_5 hg5).trans (hag.1 11 (by decide)))
    subst hr7
    refine lv_if_ne (tgt := 182) F.1 F.2.1 dL_isRolled_73 (by decide) (fun c22 => ?_) (fun c22 => False.elim (hg11 ((hag.1 11 (by decide)).trans c22)))
    refine lv_iload F.1 F.2.1 dL_isRolled_182 (lv_at hl 1 rfl) ?_
    refine lv_if_eq (tgt := 244) F.1 F.2.1 dL_isRolled_184 (by decide) (fun c23 => False.elim (by revert c23; decide)) (fun c23 => ?_)
    refine lv_aload_n F.1 F.2.1 dL_isRolled_187 rfl (lv_at hl 9 rfl) ?_
    refine lv_iconst (v := 5) F.1 F.2.1 dL_isRolled_188 (by decide) ?_
    refine w_calli F hP hS (k_ofHoop l D Y ad N hI hN _ hL 5) (cwVm 1 F.2.2.2.2.1 (fun _ h => h) mw_454 mw_719 mw_452 mw_453 mw_2 rfl rfl ydX7_ofHoop ⟨by decide, by decide⟩) (by omega) (ls_at hL) rfl rfl hl.1 rfl (Nat.le_of_ble_eq_true rfl) dL_isRolled_189 ⟨Nat.zero_le _, Nat.zero_le _⟩ (fun r8 C2 H locs hq hP hS => ?_)
    obtain ⟨hw8, hr8⟩ := hq; rw [hw8] at hP
    have hr8 := hr8.trans ((oh_5 hg5).trans (hag.1 11 (by decide)))
    subst hr8
    refine lv_iload_n F.1 F.2.1 dL_isRolled_192 rfl (lv_at hl 7 rfl) ?_
    refine lv_icmp_ne (tgt := 244) F.1 F.2.1 dL_isRolled_193 (by decide) (fun c24 => False.elim (c24 rfl)) (fun c24 => ?_)
    refine lv_aload_n F.1 F.2.1 dL_isRolled_196 rfl (lv_at hl 9 rfl) ?_
    refine lv_iconst (v := 4) F.1 F.2.1 dL_isRolled_197 (by decide) ?_
    refine w_calli F hP hS (k_ofHoop l D Y ad N hI hN _ hL 4) (cwVm 1 F.2.2.2.2.1 (fun _ h => h) mw_454 mw_719 mw_452 mw_453 mw_2 rfl rfl ydX7_ofHoop ⟨by decide, by decide⟩) (by omega) (ls_at hL) rfl rfl hl.1 rfl (Nat.le_of_ble_eq_true rfl) dL_isRolled_198 ⟨Nat.zero_le _, Nat.zero_le _⟩ (fun r9 C2 H locs hq hP hS => ?_)
    obtain ⟨hw9, hr9⟩ := hq; rw [hw9] at hP
    have hr9 := hr9.trans ((oh_4 hg5).trans (hag.1 10 (by decide)))
    subst hr9
    refine lv_iload_n F.1 F.2.1 dL_isRolled_201 rfl (lv_at hl 6 rfl) ?_
    refine lv_icmp_ne (tgt := 244) F.1 F.2.1 dL_isRolled_202 (by decide) (fun c25 => False.elim (c25 rfl)) (fun c25 => ?_)
    refine lv_aload_n F.1 F.2.1 dL_isRolled_205 rfl (lv_at hl 9 rfl) ?_
    refine lv_iconst (v := 1) F.1 F.2.1 dL_isRolled_206 (by decide) ?_
    refine w_calli F hP hS (k_ofHoop l D Y ad N hI hN _ hL 1) (cwVm 1 F.2.2.2.2.1 (fun _ h => h) mw_454 mw_719 mw_452 mw_453 mw_2 rfl rfl ydX7_ofHoop ⟨by decide, by decide⟩) (by omega) (ls_at hL) rfl rfl hl.1 rfl (Nat.le_of_ble_eq_true rfl) dL_isRolled_207 ⟨Nat.zero_le _, Nat.zero_le _⟩ (fun r10 C2 H locs hq hP hS => ?_)
    obtain ⟨hw10, hr10⟩ := hq; rw [hw10] at hP
    have hr10 := hr10.trans ((oh_1 hg5).trans (hag.1 7 (by decide)))
    subst hr10
    refine lv_iload F.1 F.2.1 dL_isRolled_210 (lv_at hl 5 rfl) ?_
    refine lv_icmp_ne (tgt := 244) F.1 F.2.1 dL_isRolled_212 (by decide) (fun c26 => False.elim (c26 rfl)) (fun c26 => ?_)
    refine lv_iload F.1 F.2.1 dL_isRolled_215 (lv_at hl 2 rfl) ?_
    refine lv_iload F.1 F.2.1 dL_isRolled_217 (lv_at hl 4 rfl) ?_
    refine lv_icmp_ne (tgt := 244) F.1 F.2.1 dL_isRolled_219 (by decide) (fun c27 => False.elim (c27 hms)) (fun c27 => ?_)
    refine lv_aload_n F.1 F.2.1 dL_isRolled_222 rfl (lv_at hl 9 rfl) ?_
    refine lv_iconst (v := 0) F.1 F.2.1 dL_isRolled_223 (by decide) ?_
    refine w_calli F hP hS (k_restore l D Y ad N hI hN _ hL 0 (by decide) (by rw [upd_s]; decide)) (cwVm 1 F.2.2.2.2.1 (fun _ h => h) mw_699 mw_744 mw_697 mw_698 mw_2 rfl rfl ydX7_restore ⟨by decide, by decide⟩) (by omega) (ls_at hL) rfl rfl hl.1 rfl (Nat.le_of_ble_eq_true rfl) dL_isRolled_224 ⟨Nat.zero_le _, Nat.zero_le _⟩ (fun r11 C11 H locs hq hP hS => ?_)
    obtain ⟨hr11, hL11, hz11⟩ := hq
    have hH11 := hz11.trans hH
    have hr11 := hr11.trans (show va_up sl 0 f 0 4 = nI n by rw [va_up_self]; exact h4)
    subst hr11
    rw [va_up_self] at hL11
    refine lv_iload F.1 F.2.1 dL_isRolled_227 (lv_at hl 3 rfl) ?_
    refine lv_icmp_ne (tgt := 244) F.1 F.2.1 dL_isRolled_229 (by decide) (fun c28 => False.elim (c28 rfl)) (fun c28 => ?_)
    refine lv_aload_n F.1 F.2.1 dL_isRolled_232 rfl (lv_at hl 9 rfl) ?_
    refine lv_iconst (v := 5) F.1 F.2.1 dL_isRolled_233 (by decide) ?_
    refine w_calli F hP hS (k_ofHoop l D Y ad N hI hN _ hL11 5) (cwVm 1 F.2.2.2.2.1 (fun _ h => h) mw_454 mw_719 mw_452 mw_453 mw_2 rfl rfl ydX7_ofHoop ⟨by decide, by decide⟩) (by omega) (ls_at hL11) rfl rfl hl.1 rfl (Nat.le_of_ble_eq_true rfl) dL_isRolled_234 ⟨Nat.zero_le _, Nat.zero_le _⟩ (fun r12 C2 H locs hq hP hS => ?_)
    obtain ⟨hw12, hr12⟩ := hq; rw [hw12] at hP
    have hr12 := hr12.trans ((oh_5 h5).trans h11)
    subst hr12
    refine lv_if_ne (tgt := 244) F.1 F.2.1 dL_isRolled_237 (by decide) (fun c29 => False.elim (by revert c29; decide)) (fun c29 => ?_)
    refine lv_iconst (v := 1) F.1 F.2.1 dL_isRolled_240 (by decide) ?_
    refine lv_goto (tgt := 245) F.1 F.2.1 dL_isRolled_241 (by decide) ?_
    exact w_zret F hr hlocks hP hS (Or.inr rfl) dL_isRolled_245 ⟨rfl, hL11, _, hH11⟩
