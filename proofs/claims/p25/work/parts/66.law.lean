/-! p25: the law -/
theorem pe_a {f : Nat → Int32} {n : Nat} (h4 : f 4 = nI n) (hn : n ≤ 20) : T_pe 21 0 1 f = -1 := by
  unfold T_pe
  rw [if_neg (fun q => by rw [h4] at q; exact nI_ge (a := n) (b := 21) (by omega) (by decide) q.2)]
theorem pe_b {f : Nat → Int32} {n : Nat} (h4 : f 4 = nI n) (hn : n ≤ 20) : T_pe 0 3 1 f = -2 := by
  unfold T_pe
  rw [if_pos ⟨by decide, by rw [h4]; exact nI_le (a := 0) (Nat.zero_le n) (by omega)⟩, if_neg (by decide)]
theorem pe_c {f : Nat → Int32} {n : Nat} (h4 : f 4 = nI n) (hn : n ≤ 20) : T_pe 0 0 10 f = -2 := by
  unfold T_pe
  rw [if_pos ⟨by decide, by rw [h4]; exact nI_le (a := 0) (Nat.zero_le n) (by omega)⟩, if_neg (by decide)]
theorem can_09 : ¬ T_can 0 9 := fun h => by
  have q := ((can_iff (k := 0) (v := 9) (by decide)).mp h).1
  exact absurd q (by decide)
theorem trc_no {f : Nat → Int32} : T_trc f 1 20 0 = -1 := by
  unfold T_trc
  rw [if_neg (fun q => absurd q.2.2 (by decide))]
set_option maxRecDepth 20000 in
set_option maxHeartbeats 4000000 in
/-- from the law's two objects on -/
theorem law_body {p : Program} {l : Launch} {e : Env} {s : State} {m : MethodId} {below : List Frame} {meth : Method} {c : Code} {D : va_G} {Y : Nat → ClassId} {ad : Nat → Nat} {N : Nat} (hI : wI ad N) (hN : 171 ≤ N) {b L : Nat} {xs : Nat → Int32} (hL0 : L ≤ 260) (F : wFix p s m c #[Value.ref b] cL_law RL 4 D Y ad N) (hX : va_X b L xs s s.heap) (hbl : b < s.heap.size) (hbA : ¬ wA ad N b) {cells slots : Nat} (hcs : cells ≤ room_1.cells ∧ slots ≤ room_1.slots) {Q : State → Prop}
    (kx : ∀ (H : Heap) (locs : List Loc) (ls : Array Slot), va_S (wA ad N) s.heap H locs → W p l e room_1 s m #[Value.ref b] below meth c H locs cells slots Q (F0 m 228 ls [.int 1]))
    {H : Heap} {locs : List Loc} {C : Nat → va_E} (hP : wP D ad N C H) (hS : va_S (wA ad N) s.heap H locs) {ls : Array Slot} (hl : lv_has ls 4 [(2, .ref (ad 170)), (1, .ref (ad 0)), (0, .ref b)]) (hA : clsA Y ad C 0 fr0 (fun _ => fr0) 0 (fun _ => fr0) (fun _ => 0) (fun _ => 0) 0) {hv : Nat → Int32} (hH : C 170 = .inl (Y 0, 8, .inl hv)) (hJ : J (100 * ((0 : Nat) : Int)) fr0) : W p l e room_1 s m #[Value.ref b] below meth c H locs cells slots Q (F0 m 13 ls []) := by
  have hL : kLS Y ad C fr0 (fun _ => fr0) (fun _ => 0) := ⟨_, _, _, _, hA, fun i hi => absurd hi (Nat.not_lt_zero _), fun _ _ => Or.inl rfl, Or.inl rfl⟩
  refine lv_aload_n F.1 F.2.1 dL_law_13 rfl (lv_at hl 1 rfl) ?_
  refine w_calls F hP hS (c_L_areParts l D Y ad N hI _ hN hL hJ (by omega) (by omega)) (cwSm 1 F.2.2.2.2.1 (fun _ h => h) mw_715 mw_712 mw_713 mw_714 rfl rfl ydL_areParts ⟨by decide, by decide⟩) rfl hl.1 rfl (Nat.le_of_ble_eq_true rfl) dL_law_14 hcs (fun r1 C2 H locs hq hP hS => ?_)
  obtain ⟨hw1, hr1⟩ := hq; rw [hw1] at hP; subst hr1
  refine lv_if_eq (tgt := 59) F.1 F.2.1 dL_law_17 (by decide) (fun c1 => False.elim (by revert c1; decide)) (fun c1 => ?_)
  refine lv_aload_n F.1 F.2.1 dL_law_20 rfl (lv_at hl 1 rfl) ?_
  refine lv_iconst (v := 0) F.1 F.2.1 dL_law_21 (by decide) ?_
  refine w_calli F hP hS (k_ofHoop l D Y ad N hI hN _ hL 0) (cwVm 1 F.2.2.2.2.1 (fun _ h => h) mw_454 mw_719 mw_452 mw_453 mw_2 rfl rfl ydX7_ofHoop ⟨by decide, by decide⟩) (by omega) (ls_at hL) rfl rfl hl.1 rfl (Nat.le_of_ble_eq_true rfl) dL_law_22 hcs (fun r2 C2 H locs hq hP hS => ?_)
  obtain ⟨hw2, hr2⟩ := hq; rw [hw2] at hP
  have hr2 := hr2.trans (oh_no (by decide) rfl)
  subst hr2
  refine lv_bipush (v := (-6)) F.1 F.2.1 dL_law_25 (by decide) ?_
  refine lv_icmp_ne (tgt := 59) F.1 F.2.1 dL_law_27 (by decide) (fun c2 => False.elim (by revert c2; decide)) (fun c2 => ?_)
  refine lv_aload_n F.1 F.2.1 dL_law_30 rfl (lv_at hl 1 rfl) ?_
  refine lv_iconst (v := 1) F.1 F.2.1 dL_law_31 (by decide) ?_
  refine w_calli F hP hS (k_roll_n l D Y ad N hI hN _ hL (fun q => absurd q.1 (by decide)) hJ.1 (by omega)) (cwVm 1 F.2.2.2.2.1 (fun _ h => h) mw_278 mw_720 mw_276 mw_277 mw_2 rfl rfl ydX7_roll ⟨by decide, by decide⟩) (by omega) (ls_at hL) rfl rfl hl.1 rfl (Nat.le_of_ble_eq_true rfl) dL_law_32 hcs (fun r3 C2 H locs hq hP hS => ?_)
  obtain ⟨hw3, hr3⟩ := hq; rw [hw3] at hP
  subst hr3
  refine lv_bipush (v := (-5)) F.1 F.2.1 dL_law_35 (by decide) ?_
  refine lv_icmp_ne (tgt := 59) F.1 F.2.1 dL_law_37 (by decide) (fun c3 => False.elim (by revert c3; decide)) (fun c3 => ?_)
  refine lv_aload_n F.1 F.2.1 dL_law_40 rfl (lv_at hl 1 rfl) ?_
  refine lv_iconst (v := 0) F.1 F.2.1 dL_law_41 (by decide) ?_
  refine w_calli F hP hS (k_tap_n l D Y ad N hI hN _ hL 0 (Or.inl rfl) (fun q => absurd q.1 (by decide)) hJ.1 (by omega)) (cwVm 1 F.2.2.2.2.1 (fun _ h => h) mw_396 mw_721 mw_394 mw_395 mw_2 rfl rfl ydX7_tap ⟨by decide, by decide⟩) (by omega) (ls_at hL) rfl rfl hl.1 rfl (Nat.le_of_ble_eq_true rfl) dL_law_42 hcs (fun r4 C2 H locs hq hP hS => ?_)
  obtain ⟨hw4, hr4⟩ := hq; rw [hw4] at hP
  subst hr4
  refine lv_bipush (v := (-5)) F.1 F.2.1 dL_law_45 (by decide) ?_
  refine lv_icmp_ne (tgt := 59) F.1 F.2.1 dL_law_47 (by decide) (fun c4 => False.elim (by revert c4; decide)) (fun c4 => ?_)
  refine lv_aload_n F.1 F.2.1 dL_law_50 rfl (lv_at hl 1 rfl) ?_
  refine w_calli F hP hS (c_X7_undo l D Y ad N hI _ 0 (by omega) fr0 (fun _ => fr0) 0 (fun _ => fr0) (fun _ => 0) (fun _ => 0) 0 hA (Or.inl rfl) (fun i hi => absurd hi (Nat.not_lt_zero _)) (fun _ _ => Or.inl rfl)) (cwVm 0 F.2.2.2.2.1 (fun _ h => h) mw_678 mw_722 mw_676 mw_677 mw_2 rfl rfl ydX7_undo ⟨by decide, by decide⟩) (by omega) (ls_at hL) rfl rfl hl.1 rfl (Nat.le_of_ble_eq_true rfl) dL_law_51 hcs (fun r5 C2 H locs hq hP hS => ?_)
  obtain ⟨hr5, hw5⟩ := hq.2 rfl; rw [hw5] at hP; subst hr5
  refine lv_bipush (v := (-5)) F.1 F.2.1 dL_law_54 (by decide) ?_
  refine lv_icmp_eq (tgt := 61) F.1 F.2.1 dL_law_56 (by decide) (fun c5 => ?_) (fun c5 => False.elim (by revert c5; decide))
  refine lv_iconst (v := 0) F.1 F.2.1 dL_law_61 (by decide) ?_
  refine lv_istore_n (lv' := [(3, .int (0)), (2, .ref (ad 170)), (1, .ref (ad 0)), (0, .ref (b))]) F.1 F.2.1 dL_law_62 rfl hl (by decide) rfl (fun ls hl => ?_)
  refine w_loop (Inv := fun j ls C' => ∃ (e : Nat) (g : Nat → Int32) (sl : Nat → Nat → Int32) (sv hw : Nat → Int32), j = 110 - e ∧ e ≤ 110 ∧ kLS Y ad C' g sl sv ∧ C' 170 = .inl (Y 0, 8, .inl hw) ∧ J (100 * (e : Int)) g ∧ lv_has ls 4 [(3, .int (nI e)), (2, .ref (ad 170)), (1, .ref (ad 0)), (0, .ref b)]) ?_ 110 ⟨0, fr0, fun _ => fr0, fun _ => 0, hv, rfl, Nat.zero_le _, hL, hH, hJ, lv_sub hl [0, 1, 2, 3] rfl⟩ hP hS
  intro j ih H locs ls K0 hInv hP hS
  obtain ⟨e, g, sl, sv, hw, hj, he, hL, hH, hJ, hl⟩ := hInv
  refine lv_iload_n F.1 F.2.1 dL_law_63 rfl (lv_at hl 0 rfl) ?_
  refine lv_bipush (v := 110) F.1 F.2.1 dL_law_64 (by decide) ?_
  refine lv_icmp_ge (tgt := 108) F.1 F.2.1 dL_law_66 (by decide) (fun c6 => ?_) (fun c6 => ?_)
  · obtain ⟨n, h4, hn, -⟩ := n_at hJ.1
    refine lv_aload_n F.1 F.2.1 dL_law_108 rfl (lv_at hl 2 rfl) ?_
    refine lv_bipush (v := 21) F.1 F.2.1 dL_law_109 (by decide) ?_
    refine lv_iconst (v := 0) F.1 F.2.1 dL_law_111 (by decide) ?_
    refine lv_iconst (v := 1) F.1 F.2.1 dL_law_112 (by decide) ?_
    refine w_calli F hP hS (k_part_e l D Y ad N hI hN _ hL 21 0 1 (-1) (pe_a h4 hn) (by decide) hJ.1 (by omega)) (cwVm 3 F.2.2.2.2.1 (fun _ h => h) mw_192 mw_733 mw_190 mw_191 mw_2 rfl rfl ydX7_part ⟨by decide, by decide⟩) (by omega) (ls_at hL) rfl rfl hl.1 rfl (Nat.le_of_ble_eq_true rfl) dL_law_113 hcs (fun r6 C2 H locs hq hP hS => ?_)
    obtain ⟨hw6, hr6⟩ := hq; rw [hw6] at hP
    subst hr6
    refine lv_iconst (v := (-1)) F.1 F.2.1 dL_law_116 (by decide) ?_
    refine lv_icmp_ne (tgt := 227) F.1 F.2.1 dL_law_117 (by decide) (fun c7 => False.elim (by revert c7; decide)) (fun c7 => ?_)
    refine lv_aload_n F.1 F.2.1 dL_law_120 rfl (lv_at hl 2 rfl) ?_
    refine lv_iconst (v := 0) F.1 F.2.1 dL_law_121 (by decide) ?_
    refine lv_iconst (v := 3) F.1 F.2.1 dL_law_122 (by decide) ?_
    refine lv_iconst (v := 1) F.1 F.2.1 dL_law_123 (by decide) ?_
    refine w_calli F hP hS (k_part_e l D Y ad N hI hN _ hL 0 3 1 (-2) (pe_b h4 hn) (by decide) hJ.1 (by omega)) (cwVm 3 F.2.2.2.2.1 (fun _ h => h) mw_192 mw_733 mw_190 mw_191 mw_2 rfl rfl ydX7_part ⟨by decide, by decide⟩) (by omega) (ls_at hL) rfl rfl hl.1 rfl (Nat.le_of_ble_eq_true rfl) dL_law_124 hcs (fun r7 C2 H locs hq hP hS => ?_)
    obtain ⟨hw7, hr7⟩ := hq; rw [hw7] at hP
    subst hr7
    refine lv_bipush (v := (-2)) F.1 F.2.1 dL_law_127 (by decide) ?_
    refine lv_icmp_ne (tgt := 227) F.1 F.2.1 dL_law_129 (by decide) (fun c8 => False.elim (by revert c8; decide)) (fun c8 => ?_)
    refine lv_aload_n F.1 F.2.1 dL_law_132 rfl (lv_at hl 2 rfl) ?_
    refine lv_iconst (v := 0) F.1 F.2.1 dL_law_133 (by decide) ?_
    refine lv_iconst (v := 0) F.1 F.2.1 dL_law_134 (by decide) ?_
    refine lv_bipush (v := 10) F.1 F.2.1 dL_law_135 (by decide) ?_
    refine w_calli F hP hS (k_part_e l D Y ad N hI hN _ hL 0 0 10 (-2) (pe_c h4 hn) (by decide) hJ.1 (by omega)) (cwVm 3 F.2.2.2.2.1 (fun _ h => h) mw_192 mw_733 mw_190 mw_191 mw_2 rfl rfl ydX7_part ⟨by decide, by decide⟩) (by omega) (ls_at hL) rfl rfl hl.1 rfl (Nat.le_of_ble_eq_true rfl) dL_law_137 hcs (fun r8 C2 H locs hq hP hS => ?_)
    obtain ⟨hw8, hr8⟩ := hq; rw [hw8] at hP
    subst hr8
    refine lv_bipush (v := (-2)) F.1 F.2.1 dL_law_140 (by decide) ?_
    refine lv_icmp_ne (tgt := 227) F.1 F.2.1 dL_law_142 (by decide) (fun c9 => False.elim (by revert c9; decide)) (fun c9 => ?_)
    refine lv_aload_n F.1 F.2.1 dL_law_145 rfl (lv_at hl 2 rfl) ?_
    refine lv_bipush (v := 61) F.1 F.2.1 dL_law_146 (by decide) ?_
    refine w_calli F hP hS (k_hoop_e l D Y ad N hI hN _ hL 61 (by decide) hJ.1 (by omega)) (cwVm 1 F.2.2.2.2.1 (fun _ h => h) mw_255 mw_735 mw_253 mw_254 mw_2 rfl rfl ydX7_hoop ⟨by decide, by decide⟩) (by omega) (ls_at hL) rfl rfl hl.1 rfl (Nat.le_of_ble_eq_true rfl) dL_law_148 hcs (fun r9 C2 H locs hq hP hS => ?_)
    obtain ⟨hw9, hr9⟩ := hq; rw [hw9] at hP
    subst hr9
    refine lv_bipush (v := (-2)) F.1 F.2.1 dL_law_151 (by decide) ?_
    refine lv_icmp_ne (tgt := 227) F.1 F.2.1 dL_law_153 (by decide) (fun c10 => False.elim (by revert c10; decide)) (fun c10 => ?_)
    refine lv_aload_n F.1 F.2.1 dL_law_156 rfl (lv_at hl 2 rfl) ?_
    refine lv_bipush (v := 21) F.1 F.2.1 dL_law_157 (by decide) ?_
    refine w_calli F hP hS (k_roll_e l D Y ad N hI hN _ hL hJ.1 (by omega)) (cwVm 1 F.2.2.2.2.1 (fun _ h => h) mw_278 mw_720 mw_276 mw_277 mw_2 rfl rfl ydX7_roll ⟨by decide, by decide⟩) (by omega) (ls_at hL) rfl rfl hl.1 rfl (Nat.le_of_ble_eq_true rfl) dL_law_159 hcs (fun r10 C2 H locs hq hP hS => ?_)
    obtain ⟨hw10, hr10⟩ := hq; rw [hw10] at hP
    subst hr10
    refine lv_bipush (v := (-2)) F.1 F.2.1 dL_law_162 (by decide) ?_
    refine lv_icmp_ne (tgt := 227) F.1 F.2.1 dL_law_164 (by decide) (fun c11 => False.elim (by revert c11; decide)) (fun c11 => ?_)
    refine lv_aload_n F.1 F.2.1 dL_law_167 rfl (lv_at hl 2 rfl) ?_
    refine lv_iconst (v := 2) F.1 F.2.1 dL_law_168 (by decide) ?_
    refine w_calli F hP hS (k_tap_e l D Y ad N hI hN _ hL hJ.1 (by omega)) (cwVm 1 F.2.2.2.2.1 (fun _ h => h) mw_396 mw_721 mw_394 mw_395 mw_2 rfl rfl ydX7_tap ⟨by decide, by decide⟩) (by omega) (ls_at hL) rfl rfl hl.1 rfl (Nat.le_of_ble_eq_true rfl) dL_law_169 hcs (fun r11 C2 H locs hq hP hS => ?_)
    obtain ⟨hw11, hr11⟩ := hq; rw [hw11] at hP
    subst hr11
    refine lv_bipush (v := (-2)) F.1 F.2.1 dL_law_172 (by decide) ?_
    refine lv_icmp_ne (tgt := 227) F.1 F.2.1 dL_law_174 (by decide) (fun c12 => False.elim (by revert c12; decide)) (fun c12 => ?_)
    refine lv_aload_n F.1 F.2.1 dL_law_177 rfl (lv_at hl 2 rfl) ?_
    refine lv_iconst (v := 0) F.1 F.2.1 dL_law_178 (by decide) ?_
    refine lv_bipush (v := 9) F.1 F.2.1 dL_law_179 (by decide) ?_
    refine w_calli F hP hS (k_set_e l D Y ad N hI hN _ hL 0 9 can_09 hJ.1 (by omega)) (cwVm 2 F.2.2.2.2.1 (fun _ h => h) mw_114 mw_737 mw_112 mw_113 mw_2 rfl rfl ydX7_set ⟨by decide, by decide⟩) (by omega) (ls_at hL) rfl rfl hl.1 rfl (Nat.le_of_ble_eq_true rfl) dL_law_181 hcs (fun r12 C2 H locs hq hP hS => ?_)
    obtain ⟨hw12, hr12⟩ := hq; rw [hw12] at hP
    subst hr12
    refine lv_bipush (v := (-2)) F.1 F.2.1 dL_law_184 (by decide) ?_
    refine lv_icmp_ne (tgt := 227) F.1 F.2.1 dL_law_186 (by decide) (fun c13 => False.elim (by revert c13; decide)) (fun c13 => ?_)
    refine lv_aload_n F.1 F.2.1 dL_law_189 rfl (lv_at hl 2 rfl) ?_
    refine lv_bipush (v := 8) F.1 F.2.1 dL_law_190 (by decide) ?_
    refine w_calli F hP hS (k_ofHoop l D Y ad N hI hN _ hL 8) (cwVm 1 F.2.2.2.2.1 (fun _ h => h) mw_454 mw_719 mw_452 mw_453 mw_2 rfl rfl ydX7_ofHoop ⟨by decide, by decide⟩) (by omega) (ls_at hL) rfl rfl hl.1 rfl (Nat.le_of_ble_eq_true rfl) dL_law_192 hcs (fun r13 C2 H locs hq hP hS => ?_)
    obtain ⟨hw13, hr13⟩ := hq; rw [hw13] at hP
    have hr13 := hr13.trans oh_bad
    subst hr13
    refine lv_bipush (v := (-2)) F.1 F.2.1 dL_law_195 (by decide) ?_
    refine lv_icmp_ne (tgt := 227) F.1 F.2.1 dL_law_197 (by decide) (fun c14 => False.elim (by revert c14; decide)) (fun c14 => ?_)
    refine lv_aload_n F.1 F.2.1 dL_law_200 rfl (lv_at hl 2 rfl) ?_
    refine lv_iconst (v := 1) F.1 F.2.1 dL_law_201 (by decide) ?_
    refine lv_bipush (v := 20) F.1 F.2.1 dL_law_202 (by decide) ?_
    refine lv_iconst (v := 0) F.1 F.2.1 dL_law_204 (by decide) ?_
    refine w_calli F hP hS (k_traced l D Y ad N hI hN _ hL 1 20 0 hJ.1 (by omega) (by omega)) (cwVm 3 F.2.2.2.2.1 (fun _ h => h) mw_546 mw_749 mw_544 mw_545 mw_2 rfl rfl ydX7_traced ⟨by decide, by decide⟩) (by omega) (ls_at hL) rfl rfl hl.1 rfl (Nat.le_of_ble_eq_true rfl) dL_law_205 hcs (fun r14 C14 H locs hq hP hS => ?_)
    obtain ⟨hr14, hL14, hz14⟩ := hq
    have hH14 := hz14.trans hH
    have hr14 := hr14.trans trc_no
    subst hr14
    refine lv_iconst (v := (-1)) F.1 F.2.1 dL_law_208 (by decide) ?_
    refine lv_icmp_ne (tgt := 227) F.1 F.2.1 dL_law_209 (by decide) (fun c15 => False.elim (by revert c15; decide)) (fun c15 => ?_)
    refine lv_aload_n F.1 F.2.1 dL_law_212 rfl (lv_at hl 2 rfl) ?_
    refine lv_bipush (v := 16) F.1 F.2.1 dL_law_213 (by decide) ?_
    refine w_calli F hP hS (k_count_e l D Y ad N hI hN _ hL14 hJ.1) (cwVm 1 F.2.2.2.2.1 (fun _ h => h) mw_482 mw_716 mw_480 mw_481 mw_2 rfl rfl ydX7_count ⟨by decide, by decide⟩) (by omega) (ls_at hL14) rfl rfl hl.1 rfl (Nat.le_of_ble_eq_true rfl) dL_law_215 hcs (fun r15 C2 H locs hq hP hS => ?_)
    obtain ⟨hw15, hr15⟩ := hq; rw [hw15] at hP
    subst hr15
    refine lv_bipush (v := (-2)) F.1 F.2.1 dL_law_218 (by decide) ?_
    refine lv_icmp_ne (tgt := 227) F.1 F.2.1 dL_law_220 (by decide) (fun c16 => False.elim (by revert c16; decide)) (fun c16 => ?_)
    refine lv_iconst (v := 1) F.1 F.2.1 dL_law_223 (by decide) ?_
    refine lv_goto (tgt := 228) F.1 F.2.1 dL_law_224 (by decide) ?_
    exact kx _ _ _ hS
  · have he110 : e < 110 := Nat.not_le.mp (fun z => c6 (nI_le (a := 110) z (by omega)))
    refine lv_aload_n F.1 F.2.1 dL_law_69 rfl (lv_at hl 2 rfl) ?_
    refine lv_aload_n F.1 F.2.1 dL_law_70 rfl (lv_at hl 1 rfl) ?_
    refine lv_aload_n F.1 F.2.1 dL_law_71 rfl (lv_at hl 3 rfl) ?_
    refine lv_iconst (v := 2) F.1 F.2.1 dL_law_72 (by decide) ?_
    refine lv_iload_n F.1 F.2.1 dL_law_73 rfl (lv_at hl 0 rfl) ?_
    refine lv_imul F.1 F.2.1 dL_law_74 ?_
    refine lv_topi (fun v17 ev17 => ?_)
    have ev17 : v17 = nI (2 * e) := ev17.trans (pk_mul 2 e)
    subst ev17
    refine w_callx F hP hS hX hbl hbA (c_L_cell l D Y ad N _ hL0 (2 * e) (by omega)) (cwSm 2 F.2.2.2.2.1 (fun _ h => h) mw_725 mw_723 mw_724 mw_714 rfl rfl ydL_cell ⟨by decide, by decide⟩) rfl hl.1 rfl (Nat.le_of_ble_eq_true rfl) dL_law_75 hcs (fun r6 C2 H locs hq hP hS => ?_)
    rw [show C2 = _ from hq] at hP
    refine lv_aload_n F.1 F.2.1 dL_law_78 rfl (lv_at hl 3 rfl) ?_
    refine lv_iconst (v := 2) F.1 F.2.1 dL_law_79 (by decide) ?_
    refine lv_iload_n F.1 F.2.1 dL_law_80 rfl (lv_at hl 0 rfl) ?_
    refine lv_imul F.1 F.2.1 dL_law_81 ?_
    refine lv_topi (fun v18 ev18 => ?_)
    have ev18 : v18 = nI (2 * e) := ev18.trans (pk_mul 2 e)
    subst ev18
    refine lv_iconst (v := 1) F.1 F.2.1 dL_law_82 (by decide) ?_
    refine lv_iadd F.1 F.2.1 dL_law_83 ?_
    refine lv_topi (fun v19 ev19 => ?_)
    have ev19 : v19 = nI (2 * e + 1) := ev19.trans (nI_succ (2 * e)).symm
    subst ev19
    refine w_callx F hP hS hX hbl hbA (c_L_cell l D Y ad N _ hL0 (2 * e + 1) (by omega)) (cwSm 2 F.2.2.2.2.1 (fun _ h => h) mw_725 mw_723 mw_724 mw_714 rfl rfl ydL_cell ⟨by decide, by decide⟩) rfl hl.1 rfl (Nat.le_of_ble_eq_true rfl) dL_law_84 hcs (fun r7 C2 H locs hq hP hS => ?_)
    rw [show C2 = _ from hq] at hP
    refine w_calls F hP hS (c_L_does l D Y ad N hI _ hN hL hH hJ (by omega) (by omega) r6 r7) (cwSm 4 F.2.2.2.2.1 (fun _ h => h) mw_728 mw_726 mw_727 mw_714 rfl rfl ydL_does ⟨by decide, by decide⟩) rfl hl.1 rfl (Nat.le_of_ble_eq_true rfl) dL_law_87 hcs (fun r8 C8 H locs hq hP hS => ?_)
    obtain ⟨hr8, g8, sl8, sv8, ⟨hL8, hv8, hH8⟩, hJ8⟩ := hq; subst hr8
    refine lv_if_eq (tgt := 100) F.1 F.2.1 dL_law_90 (by decide) (fun c20 => False.elim (by revert c20; decide)) (fun c20 => ?_)
    refine lv_aload_n F.1 F.2.1 dL_law_93 rfl (lv_at hl 2 rfl) ?_
    refine w_calls F hP hS (c_L_areParts l D Y ad N hI _ hN hL8 hJ8 (by omega) (by omega)) (cwSm 1 F.2.2.2.2.1 (fun _ h => h) mw_715 mw_712 mw_713 mw_714 rfl rfl ydL_areParts ⟨by decide, by decide⟩) rfl hl.1 rfl (Nat.le_of_ble_eq_true rfl) dL_law_94 hcs (fun r9 C2 H locs hq hP hS => ?_)
    obtain ⟨hw9, hr9⟩ := hq; rw [hw9] at hP; subst hr9
    refine lv_if_ne (tgt := 102) F.1 F.2.1 dL_law_97 (by decide) (fun c21 => ?_) (fun c21 => False.elim (by revert c21; decide))
    refine lv_iinc (v := (nI e) + 1) (lv' := [(3, .int ((nI e) + 1)), (2, .ref (ad 170)), (1, .ref (ad 0)), (0, .ref (b))]) F.1 F.2.1 dL_law_102 hl (k := 0) rfl rfl (by decide) rfl (fun ls hl => ?_)
    refine lv_goto (tgt := 63) F.1 F.2.1 dL_law_105 (by decide) ?_
    exact ih _ (by omega) _ _ _ _ ⟨e + 1, g8, sl8, sv8, _, rfl, he110, hL8, hH8, J_mono (by omega) hJ8, (by rw [nI_succ]; exact lv_sub hl [0, 1, 2, 3] rfl)⟩ hP hS
