/-! p25: does: one order of the script -/
theorem ins_k0 {k : Nat} {kd v : Int32} {f : Nat → Int32} : kindAt (T_insert k kd v f) k = kd := by
  unfold kindAt T_insert
  rw [if_neg (by omega), if_neg (by omega), if_pos rfl]
theorem ins_k1 {k : Nat} {kd v : Int32} {f : Nat → Int32} : valAt (T_insert k kd v f) k = v := by
  unfold valAt T_insert
  rw [if_neg (by omega), if_neg (by omega), if_neg (by omega), if_pos rfl]
theorem ins_k2 {k : Nat} {kd v : Int32} {f : Nat → Int32} : T_insert k kd v f (63 + 5 * k) = 0 := by
  unfold T_insert
  rw [if_neg (by omega), if_neg (by omega), if_neg (by omega), if_neg (by omega), if_pos (by omega)]
theorem mn_push {v : Int32} (h : 0 ≤ v.toInt ∧ v.toInt ≤ 99) : (v ≤ 94 → mn99 (v + 5) = v + 5) ∧ (¬ v ≤ 94 → mn99 (v + 5) = 99) := by
  have t : (5 : Int32).toInt = 5 := rfl
  have t6 : (94 : Int32).toInt = 94 := rfl
  have t9 : (99 : Int32).toInt = 99 := rfl
  have a := i_add (a := v) (b := 5) (by omega) (by omega)
  refine ⟨fun q => (mn_lo ?_).symm, fun q => if_neg ?_⟩
  · have q := Int32.le_iff_toInt_le.mp q
    rw [Int32.lt_iff_toInt_lt]
    omega
  · rw [Int32.le_iff_toInt_le] at q
    rw [Int32.lt_iff_toInt_lt]
    omega
theorem nI_ge1 {k : Nat} (h : 1 ≤ k) (h2 : k ≤ 1000) : 1 ≤ (nI k).toInt := by rw [nI_toInt (by omega)]; omega
set_option maxRecDepth 20000 in
set_option maxHeartbeats 4000000 in
theorem does_108 {p : Program} {l : Launch} {e : Env} {s : State} {m : MethodId} {below : List Frame} {meth : Method} {c : Code} {args : Array Value} {D : va_G} {Y : Nat → ClassId} {ad : Nat → Nat} {N : Nat} (hI : wI ad N) (hN : 171 ≤ N) (F : wFix p s m c args cL_does RL 20 D Y ad N) (hr : meth.sig.returnType = some .boolean) (hlocks : meth.locks = false) {C : Nat → va_E} {f : Nat → Int32} {sl : Nat → Nat → Int32} {sv : Nat → Int32} {hv : Nat → Int32} {B : Int} {H : Heap} {locs : List Loc} (hP : wP D ad N C H) (hS : va_S (wA ad N) s.heap H locs) (hL : kLS Y ad C f sl sv) (hH : C 170 = .inl (Y 0, 8, .inl hv)) (hJ : J B f) (hB0 : 0 ≤ B) (hB : B + 7000 ≤ 900000000) {n : Nat} (h4 : f 4 = nI n) (hn : n ≤ 20) {v w : Int32} {rr : Int32} {ls : Array Slot} (hl : lv_has ls 20 [(5, .int rr), (4, .int (nI n)), (3, .int w), (2, .int v), (1, .ref (ad 170)), (0, .ref (ad 0))]) : W p l e { frames := 9, cells := 0, slots := 0, locals := 213 } s m args below meth c H locs 0 0 (MQ below (wQi D ad N (fun r C' => r = 1 ∧ ∃ (f' : Nat → Int32) (sl' : Nat → Nat → Int32) (sv' : Nat → Int32), kLT Y ad C' f' sl' sv' ∧ J (B + 100) f')) args s 0 0 (wA ad N)) (F0 m 108 ls []) := by
  refine lv_iload_n F.1 F.2.1 dL_does_108 rfl (lv_at hl 2 rfl) ?_
  refine lv_iload F.1 F.2.1 dL_does_109 (lv_at hl 1 rfl) ?_
  refine lv_iconst (v := 1) F.1 F.2.1 dL_does_111 (by decide) ?_
  refine lv_iadd F.1 F.2.1 dL_does_112 ?_
  refine lv_topi (fun v1 ev1 => ?_)
  have ev1 : v1 = nI (n + 1) := ev1.trans (nI_succ n).symm
  subst ev1
  refine w_calls F hP hS (c_L_low l D Y ad N hI _ w (n + 1) (by omega) (by omega)) (cwSm 2 F.2.2.2.2.1 (fun _ h => h) mw_731 mw_729 mw_730 mw_714 rfl rfl ydL_low ⟨by decide, by decide⟩) rfl hl.1 rfl (Nat.le_of_ble_eq_true rfl) dL_does_113 ⟨Nat.zero_le _, Nat.zero_le _⟩ (fun r1 C2 H locs hq hP hS => ?_)
  obtain ⟨hw1, j1, hj1, hr1⟩ := hq; rw [hw1] at hP; subst hr1
  refine lv_istore (lv' := [(6, .int (nI j1)), (5, .int (rr)), (4, .int (nI n)), (3, .int (w)), (2, .int (v)), (1, .ref (ad 170)), (0, .ref (ad 0))]) F.1 F.2.1 dL_does_116 hl (by decide) rfl (fun ls hl => ?_)
  refine lv_iload_n F.1 F.2.1 dL_does_118 rfl (lv_at hl 3 rfl) ?_
  refine lv_iconst (v := 5) F.1 F.2.1 dL_does_119 (by decide) ?_
  refine lv_ishr F.1 F.2.1 dL_does_120 ?_
  refine lv_iconst (v := 3) F.1 F.2.1 dL_does_121 (by decide) ?_
  refine w_calls F hP hS (c_L_low l D Y ad N hI _ (w >>> (5 &&& 31)) 3 (by omega) (by omega)) (cwSm 2 F.2.2.2.2.1 (fun _ h => h) mw_731 mw_729 mw_730 mw_714 rfl rfl ydL_low ⟨by decide, by decide⟩) rfl hl.1 rfl (Nat.le_of_ble_eq_true rfl) dL_does_122 ⟨Nat.zero_le _, Nat.zero_le _⟩ (fun r2 C2 H locs hq hP hS => ?_)
  obtain ⟨hw2, j2, hj2, hr2⟩ := hq; rw [hw2] at hP; subst hr2
  have hj2c : j2 = 0 ∨ j2 = 1 ∨ j2 = 2 := by omega
  rcases hj2c with e0 | e0 | e0
  · subst e0
    refine lv_topi (fun v2 ev2 => ?_)
    have ev2 : v2 = 0 := ev2.trans rfl
    subst ev2
    refine lv_istore (lv' := [(7, .int (0)), (6, .int (nI j1)), (5, .int (rr)), (4, .int (nI n)), (3, .int (w)), (2, .int (v)), (1, .ref (ad 170)), (0, .ref (ad 0))]) F.1 F.2.1 dL_does_125 hl (by decide) rfl (fun ls hl => ?_)
    refine lv_iload F.1 F.2.1 dL_does_127 (lv_at hl 0 rfl) ?_
    refine lv_iconst (v := 2) F.1 F.2.1 dL_does_129 (by decide) ?_
    refine lv_icmp_ne (tgt := 148) F.1 F.2.1 dL_does_130 (by decide) (fun c3 => ?_) (fun c3 => False.elim (by revert c3; decide))
    refine lv_iconst (v := 1) F.1 F.2.1 dL_does_148 (by decide) ?_
    refine lv_iload_n F.1 F.2.1 dL_does_149 rfl (lv_at hl 4 rfl) ?_
    refine lv_bipush (v := 7) F.1 F.2.1 dL_does_150 (by decide) ?_
    refine lv_ishr F.1 F.2.1 dL_does_152 ?_
    refine lv_iload F.1 F.2.1 dL_does_153 (lv_at hl 0 rfl) ?_
    refine lv_if_ne (tgt := 162) F.1 F.2.1 dL_does_155 (by decide) (fun c4 => False.elim (by revert c4; decide)) (fun c4 => ?_)
    refine lv_iconst (v := 4) F.1 F.2.1 dL_does_158 (by decide) ?_
    refine lv_goto (tgt := 164) F.1 F.2.1 dL_does_159 (by decide) ?_
    refine w_calls F hP hS (c_L_low l D Y ad N hI _ (w >>> (7 &&& 31)) 4 (by omega) (by omega)) (cwSm 2 F.2.2.2.2.1 (fun _ h => h) mw_731 mw_729 mw_730 mw_714 rfl rfl ydL_low ⟨by decide, by decide⟩) rfl hl.1 rfl (Nat.le_of_ble_eq_true rfl) dL_does_164 ⟨Nat.zero_le _, Nat.zero_le _⟩ (fun r3 C2 H locs hq hP hS => ?_)
    obtain ⟨hw3, j3, hj3, hr3⟩ := hq; rw [hw3] at hP; subst hr3
    refine lv_iadd F.1 F.2.1 dL_does_167 ?_
    refine lv_topi (fun v5 ev5 => ?_)
    have ev5 : v5 = nI (1 + j3) := ev5.trans (nI_add 1 j3)
    subst ev5
    refine lv_istore (lv' := [(8, .int (nI (1 + j3))), (7, .int (0)), (6, .int (nI j1)), (5, .int (rr)), (4, .int (nI n)), (3, .int (w)), (2, .int (v)), (1, .ref (ad 170)), (0, .ref (ad 0))]) F.1 F.2.1 dL_does_168 hl (by decide) rfl (fun ls hl => ?_)
    by_cases hn20 : n = 20
    · have hfull := hn20
      refine lv_aload_n F.1 F.2.1 dL_does_170 rfl (lv_at hl 8 rfl) ?_
      refine lv_iload F.1 F.2.1 dL_does_171 (lv_at hl 2 rfl) ?_
      refine lv_iload F.1 F.2.1 dL_does_173 (lv_at hl 1 rfl) ?_
      refine lv_iload F.1 F.2.1 dL_does_175 (lv_at hl 0 rfl) ?_
      have hp : (0 : Int32) ≤ 0 ∧ (0 : Int32) ≤ 2 ∧ 1 ≤ nI (1 + j3) ∧ nI (1 + j3) ≤ (if (0 : Int32) = 2 then 99 else 9) := ⟨by decide, by decide, nI_le (a := 1) (by omega) (by omega), by rw [if_neg (by decide)]; exact nI_le (b := 9) (by omega) (by decide)⟩
      refine w_calli F hP hS (k_part_e l D Y ad N hI hN _ hL (nI j1) 0 (nI (1 + j3)) (-4) (pe_full (by rw [h4, hn20]) (by omega) hp) (by decide) hJ.1 (by omega)) (cwVm 3 F.2.2.2.2.1 (fun _ h => h) mw_192 mw_733 mw_190 mw_191 mw_2 rfl rfl ydX7_part ⟨by decide, by decide⟩) (by omega) (ls_at hL) rfl rfl hl.1 rfl (Nat.le_of_ble_eq_true rfl) dL_does_177 ⟨Nat.zero_le _, Nat.zero_le _⟩ (fun r4 C2 H locs hq hP hS => ?_)
      obtain ⟨hw4, hr4⟩ := hq; rw [hw4] at hP
      subst hr4
      refine lv_istore (lv' := [(9, .int ((-4))), (8, .int (nI (1 + j3))), (7, .int (0)), (6, .int (nI j1)), (5, .int (rr)), (4, .int (nI n)), (3, .int (w)), (2, .int (v)), (1, .ref (ad 170)), (0, .ref (ad 0))]) F.1 F.2.1 dL_does_180 hl (by decide) rfl (fun ls hl => ?_)
      refine lv_iload F.1 F.2.1 dL_does_182 (lv_at hl 5 rfl) ?_
      refine lv_bipush (v := 20) F.1 F.2.1 dL_does_184 (by decide) ?_
      refine lv_icmp_ne (tgt := 204) F.1 F.2.1 dL_does_186 (by decide) (fun c6 => False.elim (c6 (by rw [hn20]; rfl))) (fun c6 => ?_)
      refine lv_iload F.1 F.2.1 dL_does_189 (lv_at hl 0 rfl) ?_
      refine lv_bipush (v := (-4)) F.1 F.2.1 dL_does_191 (by decide) ?_
      refine lv_icmp_ne (tgt := 200) F.1 F.2.1 dL_does_193 (by decide) (fun c7 => False.elim (by revert c7; decide)) (fun c7 => ?_)
      refine lv_iconst (v := 1) F.1 F.2.1 dL_does_196 (by decide) ?_
      refine lv_goto (tgt := 262) F.1 F.2.1 dL_does_197 (by decide) ?_
      exact w_zret F hr hlocks hP hS (Or.inr rfl) dL_does_262 ⟨rfl, _, _, _, ⟨hL, _, hH⟩, (J_mono (by omega) hJ)⟩
    · have hn19 : n < 20 := by omega
      refine lv_aload_n F.1 F.2.1 dL_does_170 rfl (lv_at hl 8 rfl) ?_
      refine lv_iload F.1 F.2.1 dL_does_171 (lv_at hl 2 rfl) ?_
      refine lv_iload F.1 F.2.1 dL_does_173 (lv_at hl 1 rfl) ?_
      refine lv_iload F.1 F.2.1 dL_does_175 (lv_at hl 0 rfl) ?_
      have hp : (0 : Int32) ≤ 0 ∧ (0 : Int32) ≤ 2 ∧ 1 ≤ nI (1 + j3) ∧ nI (1 + j3) ≤ (if (0 : Int32) = 2 then 99 else 9) := ⟨by decide, by decide, nI_le (a := 1) (by omega) (by omega), by rw [if_neg (by decide)]; exact nI_le (b := 9) (by omega) (by decide)⟩
      refine w_calli F hP hS (k_part l D Y ad N hI hN _ hL (nI j1) 0 (nI (1 + j3)) (pe_ok h4 (by omega) (by omega) hp) hJ.1 (by omega)) (cwVm 3 F.2.2.2.2.1 (fun _ h => h) mw_192 mw_733 mw_190 mw_191 mw_2 rfl rfl ydX7_part ⟨by decide, by decide⟩) (by omega) (ls_at hL) rfl rfl hl.1 rfl (Nat.le_of_ble_eq_true rfl) dL_does_177 ⟨Nat.zero_le _, Nat.zero_le _⟩ (fun r4 C4 H locs hq hP hS => ?_)
      obtain ⟨hr4, hL4, hz4⟩ := hq
      have hH4 := hz4.trans hH
      have hr4 := hr4.trans (show f 4 + 1 = nI (n + 1) by rw [h4, ← nI_succ])
      subst hr4
      rw [nI_clamp (show j1 < 2 ^ 31 by omega)] at hL4
      have hg4 : T_insert j1 0 (nI (1 + j3)) f 4 = nI (n + 1) := show f 4 + 1 = nI (n + 1) by rw [h4, ← nI_succ]
      have hJ1 : J (B + 100) (T_insert j1 0 (nI (1 + j3)) f) := J_mono (by omega) (J_ins hB0 hJ (by omega) (by omega) h4 hp)
      refine lv_istore (lv' := [(9, .int (nI (n + 1))), (8, .int (nI (1 + j3))), (7, .int (0)), (6, .int (nI j1)), (5, .int (rr)), (4, .int (nI n)), (3, .int (w)), (2, .int (v)), (1, .ref (ad 170)), (0, .ref (ad 0))]) F.1 F.2.1 dL_does_180 hl (by decide) rfl (fun ls hl => ?_)
      refine lv_iload F.1 F.2.1 dL_does_182 (lv_at hl 5 rfl) ?_
      refine lv_bipush (v := 20) F.1 F.2.1 dL_does_184 (by decide) ?_
      refine lv_icmp_ne (tgt := 204) F.1 F.2.1 dL_does_186 (by decide) (fun c8 => ?_) (fun c8 => False.elim (hn20 ((nI_eq (a := n) (b := 20) (by omega) (by decide)).mp c8)))
      refine lv_iload F.1 F.2.1 dL_does_204 (lv_at hl 0 rfl) ?_
      refine lv_iload F.1 F.2.1 dL_does_206 (lv_at hl 5 rfl) ?_
      refine lv_iconst (v := 1) F.1 F.2.1 dL_does_208 (by decide) ?_
      refine lv_iadd F.1 F.2.1 dL_does_209 ?_
      refine lv_topi (fun v9 ev9 => ?_)
      have ev9 : v9 = nI (n + 1) := ev9.trans (nI_succ n).symm
      subst ev9
      refine lv_icmp_ne (tgt := 261) F.1 F.2.1 dL_does_210 (by decide) (fun c10 => False.elim (c10 rfl)) (fun c10 => ?_)
      refine lv_aload_n F.1 F.2.1 dL_does_213 rfl (lv_at hl 9 rfl) ?_
      refine lv_iload F.1 F.2.1 dL_does_214 (lv_at hl 3 rfl) ?_
      refine lv_iconst (v := 0) F.1 F.2.1 dL_does_216 (by decide) ?_
      refine w_calli F hP hS (k_of l D Y ad N hI hN _ hL4 (nI j1) 0) (cwVm 2 F.2.2.2.2.1 (fun _ h => h) mw_445 mw_717 mw_443 mw_444 mw_2 rfl rfl ydX7_of ⟨by decide, by decide⟩) (by omega) (ls_at hL4) rfl rfl hl.1 rfl (Nat.le_of_ble_eq_true rfl) dL_does_217 ⟨Nat.zero_le _, Nat.zero_le _⟩ (fun r5 C2 H locs hq hP hS => ?_)
      obtain ⟨hw5, hr5⟩ := hq; rw [hw5] at hP
      have hr5 := hr5.trans ((of_0 hg4 hj1 (by omega)).trans ins_k0)
      subst hr5
      refine lv_iload F.1 F.2.1 dL_does_220 (lv_at hl 2 rfl) ?_
      refine lv_icmp_ne (tgt := 261) F.1 F.2.1 dL_does_222 (by decide) (fun c11 => False.elim (by revert c11; decide)) (fun c11 => ?_)
      refine lv_aload_n F.1 F.2.1 dL_does_225 rfl (lv_at hl 9 rfl) ?_
      refine lv_iload F.1 F.2.1 dL_does_226 (lv_at hl 3 rfl) ?_
      refine lv_iconst (v := 1) F.1 F.2.1 dL_does_228 (by decide) ?_
      refine w_calli F hP hS (k_of l D Y ad N hI hN _ hL4 (nI j1) 1) (cwVm 2 F.2.2.2.2.1 (fun _ h => h) mw_445 mw_717 mw_443 mw_444 mw_2 rfl rfl ydX7_of ⟨by decide, by decide⟩) (by omega) (ls_at hL4) rfl rfl hl.1 rfl (Nat.le_of_ble_eq_true rfl) dL_does_229 ⟨Nat.zero_le _, Nat.zero_le _⟩ (fun r6 C2 H locs hq hP hS => ?_)
      obtain ⟨hw6, hr6⟩ := hq; rw [hw6] at hP
      have hr6 := hr6.trans ((of_1 hg4 hj1 (by omega)).trans ins_k1)
      subst hr6
      refine lv_iload F.1 F.2.1 dL_does_232 (lv_at hl 1 rfl) ?_
      refine lv_icmp_ne (tgt := 261) F.1 F.2.1 dL_does_234 (by decide) (fun c12 => False.elim (c12 rfl)) (fun c12 => ?_)
      refine lv_aload_n F.1 F.2.1 dL_does_237 rfl (lv_at hl 9 rfl) ?_
      refine lv_iload F.1 F.2.1 dL_does_238 (lv_at hl 3 rfl) ?_
      refine lv_iconst (v := 2) F.1 F.2.1 dL_does_240 (by decide) ?_
      refine w_calli F hP hS (k_of l D Y ad N hI hN _ hL4 (nI j1) 2) (cwVm 2 F.2.2.2.2.1 (fun _ h => h) mw_445 mw_717 mw_443 mw_444 mw_2 rfl rfl ydX7_of ⟨by decide, by decide⟩) (by omega) (ls_at hL4) rfl rfl hl.1 rfl (Nat.le_of_ble_eq_true rfl) dL_does_241 ⟨Nat.zero_le _, Nat.zero_le _⟩ (fun r7 C2 H locs hq hP hS => ?_)
      obtain ⟨hw7, hr7⟩ := hq; rw [hw7] at hP
      have hr7 := hr7.trans ((of_2 hg4 hj1 (by omega)).trans ins_k2)
      subst hr7
      refine lv_if_ne (tgt := 261) F.1 F.2.1 dL_does_244 (by decide) (fun c13 => False.elim (by revert c13; decide)) (fun c13 => ?_)
      refine lv_aload_n F.1 F.2.1 dL_does_247 rfl (lv_at hl 9 rfl) ?_
      refine lv_iconst (v := 0) F.1 F.2.1 dL_does_248 (by decide) ?_
      refine w_calli F hP hS (k_ofHoop l D Y ad N hI hN _ hL4 0) (cwVm 1 F.2.2.2.2.1 (fun _ h => h) mw_454 mw_719 mw_452 mw_453 mw_2 rfl rfl ydX7_ofHoop ⟨by decide, by decide⟩) (by omega) (ls_at hL4) rfl rfl hl.1 rfl (Nat.le_of_ble_eq_true rfl) dL_does_249 ⟨Nat.zero_le _, Nat.zero_le _⟩ (fun r8 C2 H locs hq hP hS => ?_)
      obtain ⟨hw8, hr8⟩ := hq; rw [hw8] at hP
      have hr8 := hr8.trans (oh_no (by decide) rfl)
      subst hr8
      refine lv_bipush (v := (-6)) F.1 F.2.1 dL_does_252 (by decide) ?_
      refine lv_icmp_ne (tgt := 261) F.1 F.2.1 dL_does_254 (by decide) (fun c14 => False.elim (by revert c14; decide)) (fun c14 => ?_)
      refine lv_iconst (v := 1) F.1 F.2.1 dL_does_257 (by decide) ?_
      refine lv_goto (tgt := 262) F.1 F.2.1 dL_does_258 (by decide) ?_
      exact w_zret F hr hlocks hP hS (Or.inr rfl) dL_does_262 ⟨rfl, _, _, _, ⟨hL4, _, hH4⟩, hJ1⟩
  · subst e0
    refine lv_topi (fun v15 ev15 => ?_)
    have ev15 : v15 = 1 := ev15.trans rfl
    subst ev15
    refine lv_istore (lv' := [(7, .int (1)), (6, .int (nI j1)), (5, .int (rr)), (4, .int (nI n)), (3, .int (w)), (2, .int (v)), (1, .ref (ad 170)), (0, .ref (ad 0))]) F.1 F.2.1 dL_does_125 hl (by decide) rfl (fun ls hl => ?_)
    refine lv_iload F.1 F.2.1 dL_does_127 (lv_at hl 0 rfl) ?_
    refine lv_iconst (v := 2) F.1 F.2.1 dL_does_129 (by decide) ?_
    refine lv_icmp_ne (tgt := 148) F.1 F.2.1 dL_does_130 (by decide) (fun c16 => ?_) (fun c16 => False.elim (by revert c16; decide))
    refine lv_iconst (v := 1) F.1 F.2.1 dL_does_148 (by decide) ?_
    refine lv_iload_n F.1 F.2.1 dL_does_149 rfl (lv_at hl 4 rfl) ?_
    refine lv_bipush (v := 7) F.1 F.2.1 dL_does_150 (by decide) ?_
    refine lv_ishr F.1 F.2.1 dL_does_152 ?_
    refine lv_iload F.1 F.2.1 dL_does_153 (lv_at hl 0 rfl) ?_
    refine lv_if_ne (tgt := 162) F.1 F.2.1 dL_does_155 (by decide) (fun c17 => ?_) (fun c17 => False.elim (by revert c17; decide))
    refine lv_bipush (v := 9) F.1 F.2.1 dL_does_162 (by decide) ?_
    refine w_calls F hP hS (c_L_low l D Y ad N hI _ (w >>> (7 &&& 31)) 9 (by omega) (by omega)) (cwSm 2 F.2.2.2.2.1 (fun _ h => h) mw_731 mw_729 mw_730 mw_714 rfl rfl ydL_low ⟨by decide, by decide⟩) rfl hl.1 rfl (Nat.le_of_ble_eq_true rfl) dL_does_164 ⟨Nat.zero_le _, Nat.zero_le _⟩ (fun r3 C2 H locs hq hP hS => ?_)
    obtain ⟨hw3, j3, hj3, hr3⟩ := hq; rw [hw3] at hP; subst hr3
    refine lv_iadd F.1 F.2.1 dL_does_167 ?_
    refine lv_topi (fun v18 ev18 => ?_)
    have ev18 : v18 = nI (1 + j3) := ev18.trans (nI_add 1 j3)
    subst ev18
    refine lv_istore (lv' := [(8, .int (nI (1 + j3))), (7, .int (1)), (6, .int (nI j1)), (5, .int (rr)), (4, .int (nI n)), (3, .int (w)), (2, .int (v)), (1, .ref (ad 170)), (0, .ref (ad 0))]) F.1 F.2.1 dL_does_168 hl (by decide) rfl (fun ls hl => ?_)
    by_cases hn20 : n = 20
    · have hfull := hn20
      refine lv_aload_n F.1 F.2.1 dL_does_170 rfl (lv_at hl 8 rfl) ?_
      refine lv_iload F.1 F.2.1 dL_does_171 (lv_at hl 2 rfl) ?_
      refine lv_iload F.1 F.2.1 dL_does_173 (lv_at hl 1 rfl) ?_
      refine lv_iload F.1 F.2.1 dL_does_175 (lv_at hl 0 rfl) ?_
      have hp : (0 : Int32) ≤ 1 ∧ (1 : Int32) ≤ 2 ∧ 1 ≤ nI (1 + j3) ∧ nI (1 + j3) ≤ (if (1 : Int32) = 2 then 99 else 9) := ⟨by decide, by decide, nI_le (a := 1) (by omega) (by omega), by rw [if_neg (by decide)]; exact nI_le (b := 9) (by omega) (by decide)⟩
      refine w_calli F hP hS (k_part_e l D Y ad N hI hN _ hL (nI j1) 1 (nI (1 + j3)) (-4) (pe_full (by rw [h4, hn20]) (by omega) hp) (by decide) hJ.1 (by omega)) (cwVm 3 F.2.2.2.2.1 (fun _ h => h) mw_192 mw_733 mw_190 mw_191 mw_2 rfl rfl ydX7_part ⟨by decide, by decide⟩) (by omega) (ls_at hL) rfl rfl hl.1 rfl (Nat.le_of_ble_eq_true rfl) dL_does_177 ⟨Nat.zero_le _, Nat.zero_le _⟩ (fun r4 C2 H locs hq hP hS => ?_)
      obtain ⟨hw4, hr4⟩ := hq; rw [hw4] at hP
      subst hr4
      refine lv_istore (lv' := [(9, .int ((-4))), (8, .int (nI (1 + j3))), (7, .int (1)), (6, .int (nI j1)), (5, .int (rr)), (4, .int (nI n)), (3, .int (w)), (2, .int (v)), (1, .ref (ad 170)), (0, .ref (ad 0))]) F.1 F.2.1 dL_does_180 hl (by decide) rfl (fun ls hl => ?_)
      refine lv_iload F.1 F.2.1 dL_does_182 (lv_at hl 5 rfl) ?_
      refine lv_bipush (v := 20) F.1 F.2.1 dL_does_184 (by decide) ?_
      refine lv_icmp_ne (tgt := 204) F.1 F.2.1 dL_does_186 (by decide) (fun c19 => False.elim (c19 (by rw [hn20]; rfl))) (fun c19 => ?_)
      refine lv_iload F.1 F.2.1 dL_does_189 (lv_at hl 0 rfl) ?_
      refine lv_bipush (v := (-4)) F.1 F.2.1 dL_does_191 (by decide) ?_
      refine lv_icmp_ne (tgt := 200) F.1 F.2.1 dL_does_193 (by decide) (fun c20 => False.elim (by revert c20; decide)) (fun c20 => ?_)
      refine lv_iconst (v := 1) F.1 F.2.1 dL_does_196 (by decide) ?_
      refine lv_goto (tgt := 262) F.1 F.2.1 dL_does_197 (by decide) ?_
      exact w_zret F hr hlocks hP hS (Or.inr rfl) dL_does_262 ⟨rfl, _, _, _, ⟨hL, _, hH⟩, (J_mono (by omega) hJ)⟩
    · have hn19 : n < 20 := by omega
      refine lv_aload_n F.1 F.2.1 dL_does_170 rfl (lv_at hl 8 rfl) ?_
      refine lv_iload F.1 F.2.1 dL_does_171 (lv_at hl 2 rfl) ?_
      refine lv_iload F.1 F.2.1 dL_does_173 (lv_at hl 1 rfl) ?_
      refine lv_iload F.1 F.2.1 dL_does_175 (lv_at hl 0 rfl) ?_
      have hp : (0 : Int32) ≤ 1 ∧ (1 : Int32) ≤ 2 ∧ 1 ≤ nI (1 + j3) ∧ nI (1 + j3) ≤ (if (1 : Int32) = 2 then 99 else 9) := ⟨by decide, by decide, nI_le (a := 1) (by omega) (by omega), by rw [if_neg (by decide)]; exact nI_le (b := 9) (by omega) (by decide)⟩
      refine w_calli F hP hS (k_part l D Y ad N hI hN _ hL (nI j1) 1 (nI (1 + j3)) (pe_ok h4 (by omega) (by omega) hp) hJ.1 (by omega)) (cwVm 3 F.2.2.2.2.1 (fun _ h => h) mw_192 mw_733 mw_190 mw_191 mw_2 rfl rfl ydX7_part ⟨by decide, by decide⟩) (by omega) (ls_at hL) rfl rfl hl.1 rfl (Nat.le_of_ble_eq_true rfl) dL_does_177 ⟨Nat.zero_le _, Nat.zero_le _⟩ (fun r4 C4 H locs hq hP hS => ?_)
      obtain ⟨hr4, hL4, hz4⟩ := hq
      have hH4 := hz4.trans hH
      have hr4 := hr4.trans (show f 4 + 1 = nI (n + 1) by rw [h4, ← nI_succ])
      subst hr4
      rw [nI_clamp (show j1 < 2 ^ 31 by omega)] at hL4
      have hg4 : T_insert j1 1 (nI (1 + j3)) f 4 = nI (n + 1) := show f 4 + 1 = nI (n + 1) by rw [h4, ← nI_succ]
      have hJ1 : J (B + 100) (T_insert j1 1 (nI (1 + j3)) f) := J_mono (by omega) (J_ins hB0 hJ (by omega) (by omega) h4 hp)
      refine lv_istore (lv' := [(9, .int (nI (n + 1))), (8, .int (nI (1 + j3))), (7, .int (1)), (6, .int (nI j1)), (5, .int (rr)), (4, .int (nI n)), (3, .int (w)), (2, .int (v)), (1, .ref (ad 170)), (0, .ref (ad 0))]) F.1 F.2.1 dL_does_180 hl (by decide) rfl (fun ls hl => ?_)
      refine lv_iload F.1 F.2.1 dL_does_182 (lv_at hl 5 rfl) ?_
      refine lv_bipush (v := 20) F.1 F.2.1 dL_does_184 (by decide) ?_
      refine lv_icmp_ne (tgt := 204) F.1 F.2.1 dL_does_186 (by decide) (fun c21 => ?_) (fun c21 => False.elim (hn20 ((nI_eq (a := n) (b := 20) (by omega) (by decide)).mp c21)))
      refine lv_iload F.1 F.2.1 dL_does_204 (lv_at hl 0 rfl) ?_
      refine lv_iload F.1 F.2.1 dL_does_206 (lv_at hl 5 rfl) ?_
      refine lv_iconst (v := 1) F.1 F.2.1 dL_does_208 (by decide) ?_
      refine lv_iadd F.1 F.2.1 dL_does_209 ?_
      refine lv_topi (fun v22 ev22 => ?_)
      have ev22 : v22 = nI (n + 1) := ev22.trans (nI_succ n).symm
      subst ev22
      refine lv_icmp_ne (tgt := 261) F.1 F.2.1 dL_does_210 (by decide) (fun c23 => False.elim (c23 rfl)) (fun c23 => ?_)
      refine lv_aload_n F.1 F.2.1 dL_does_213 rfl (lv_at hl 9 rfl) ?_
      refine lv_iload F.1 F.2.1 dL_does_214 (lv_at hl 3 rfl) ?_
      refine lv_iconst (v := 0) F.1 F.2.1 dL_does_216 (by decide) ?_
      refine w_calli F hP hS (k_of l D Y ad N hI hN _ hL4 (nI j1) 0) (cwVm 2 F.2.2.2.2.1 (fun _ h => h) mw_445 mw_717 mw_443 mw_444 mw_2 rfl rfl ydX7_of ⟨by decide, by decide⟩) (by omega) (ls_at hL4) rfl rfl hl.1 rfl (Nat.le_of_ble_eq_true rfl) dL_does_217 ⟨Nat.zero_le _, Nat.zero_le _⟩ (fun r5 C2 H locs hq hP hS => ?_)
      obtain ⟨hw5, hr5⟩ := hq; rw [hw5] at hP
      have hr5 := hr5.trans ((of_0 hg4 hj1 (by omega)).trans ins_k0)
      subst hr5
      refine lv_iload F.1 F.2.1 dL_does_220 (lv_at hl 2 rfl) ?_
      refine lv_icmp_ne (tgt := 261) F.1 F.2.1 dL_does_222 (by decide) (fun c24 => False.elim (by revert c24; decide)) (fun c24 => ?_)
      refine lv_aload_n F.1 F.2.1 dL_does_225 rfl (lv_at hl 9 rfl) ?_
      refine lv_iload F.1 F.2.1 dL_does_226 (lv_at hl 3 rfl) ?_
      refine lv_iconst (v := 1) F.1 F.2.1 dL_does_228 (by decide) ?_
      refine w_calli F hP hS (k_of l D Y ad N hI hN _ hL4 (nI j1) 1) (cwVm 2 F.2.2.2.2.1 (fun _ h => h) mw_445 mw_717 mw_443 mw_444 mw_2 rfl rfl ydX7_of ⟨by decide, by decide⟩) (by omega) (ls_at hL4) rfl rfl hl.1 rfl (Nat.le_of_ble_eq_true rfl) dL_does_229 ⟨Nat.zero_le _, Nat.zero_le _⟩ (fun r6 C2 H locs hq hP hS => ?_)
      obtain ⟨hw6, hr6⟩ := hq; rw [hw6] at hP
      have hr6 := hr6.trans ((of_1 hg4 hj1 (by omega)).trans ins_k1)
      subst hr6
      refine lv_iload F.1 F.2.1 dL_does_232 (lv_at hl 1 rfl) ?_
      refine lv_icmp_ne (tgt := 261) F.1 F.2.1 dL_does_234 (by decide) (fun c25 => False.elim (c25 rfl)) (fun c25 => ?_)
      refine lv_aload_n F.1 F.2.1 dL_does_237 rfl (lv_at hl 9 rfl) ?_
      refine lv_iload F.1 F.2.1 dL_does_238 (lv_at hl 3 rfl) ?_
      refine lv_iconst (v := 2) F.1 F.2.1 dL_does_240 (by decide) ?_
      refine w_calli F hP hS (k_of l D Y ad N hI hN _ hL4 (nI j1) 2) (cwVm 2 F.2.2.2.2.1 (fun _ h => h) mw_445 mw_717 mw_443 mw_444 mw_2 rfl rfl ydX7_of ⟨by decide, by decide⟩) (by omega) (ls_at hL4) rfl rfl hl.1 rfl (Nat.le_of_ble_eq_true rfl) dL_does_241 ⟨Nat.zero_le _, Nat.zero_le _⟩ (fun r7 C2 H locs hq hP hS => ?_)
      obtain ⟨hw7, hr7⟩ := hq; rw [hw7] at hP
      have hr7 := hr7.trans ((of_2 hg4 hj1 (by omega)).trans ins_k2)
      subst hr7
      refine lv_if_ne (tgt := 261) F.1 F.2.1 dL_does_244 (by decide) (fun c26 => False.elim (by revert c26; decide)) (fun c26 => ?_)
      refine lv_aload_n F.1 F.2.1 dL_does_247 rfl (lv_at hl 9 rfl) ?_
      refine lv_iconst (v := 0) F.1 F.2.1 dL_does_248 (by decide) ?_
      refine w_calli F hP hS (k_ofHoop l D Y ad N hI hN _ hL4 0) (cwVm 1 F.2.2.2.2.1 (fun _ h => h) mw_454 mw_719 mw_452 mw_453 mw_2 rfl rfl ydX7_ofHoop ⟨by decide, by decide⟩) (by omega) (ls_at hL4) rfl rfl hl.1 rfl (Nat.le_of_ble_eq_true rfl) dL_does_249 ⟨Nat.zero_le _, Nat.zero_le _⟩ (fun r8 C2 H locs hq hP hS => ?_)
      obtain ⟨hw8, hr8⟩ := hq; rw [hw8] at hP
      have hr8 := hr8.trans (oh_no (by decide) rfl)
      subst hr8
      refine lv_bipush (v := (-6)) F.1 F.2.1 dL_does_252 (by decide) ?_
      refine lv_icmp_ne (tgt := 261) F.1 F.2.1 dL_does_254 (by decide) (fun c27 => False.elim (by revert c27; decide)) (fun c27 => ?_)
      refine lv_iconst (v := 1) F.1 F.2.1 dL_does_257 (by decide) ?_
      refine lv_goto (tgt := 262) F.1 F.2.1 dL_does_258 (by decide) ?_
      exact w_zret F hr hlocks hP hS (Or.inr rfl) dL_does_262 ⟨rfl, _, _, _, ⟨hL4, _, hH4⟩, hJ1⟩
  · subst e0
    refine lv_topi (fun v28 ev28 => ?_)
    have ev28 : v28 = 2 := ev28.trans rfl
    subst ev28
    refine lv_istore (lv' := [(7, .int (2)), (6, .int (nI j1)), (5, .int (rr)), (4, .int (nI n)), (3, .int (w)), (2, .int (v)), (1, .ref (ad 170)), (0, .ref (ad 0))]) F.1 F.2.1 dL_does_125 hl (by decide) rfl (fun ls hl => ?_)
    refine lv_iload F.1 F.2.1 dL_does_127 (lv_at hl 0 rfl) ?_
    refine lv_iconst (v := 2) F.1 F.2.1 dL_does_129 (by decide) ?_
    refine lv_icmp_ne (tgt := 148) F.1 F.2.1 dL_does_130 (by decide) (fun c29 => False.elim (by revert c29; decide)) (fun c29 => ?_)
    refine lv_bipush (v := 20) F.1 F.2.1 dL_does_133 (by decide) ?_
    refine lv_iload_n F.1 F.2.1 dL_does_135 rfl (lv_at hl 4 rfl) ?_
    refine lv_bipush (v := 7) F.1 F.2.1 dL_does_136 (by decide) ?_
    refine lv_ishr F.1 F.2.1 dL_does_138 ?_
    refine lv_bipush (v := 60) F.1 F.2.1 dL_does_139 (by decide) ?_
    refine w_calls F hP hS (c_L_low l D Y ad N hI _ (w >>> (7 &&& 31)) 60 (by omega) (by omega)) (cwSm 2 F.2.2.2.2.1 (fun _ h => h) mw_731 mw_729 mw_730 mw_714 rfl rfl ydL_low ⟨by decide, by decide⟩) rfl hl.1 rfl (Nat.le_of_ble_eq_true rfl) dL_does_141 ⟨Nat.zero_le _, Nat.zero_le _⟩ (fun r3 C2 H locs hq hP hS => ?_)
    obtain ⟨hw3, j3, hj3, hr3⟩ := hq; rw [hw3] at hP; subst hr3
    refine lv_iadd F.1 F.2.1 dL_does_144 ?_
    refine lv_goto (tgt := 168) F.1 F.2.1 dL_does_145 (by decide) ?_
    refine lv_topi (fun v30 ev30 => ?_)
    have ev30 : v30 = nI (20 + j3) := ev30.trans (nI_add 20 j3)
    subst ev30
    refine lv_istore (lv' := [(8, .int (nI (20 + j3))), (7, .int (2)), (6, .int (nI j1)), (5, .int (rr)), (4, .int (nI n)), (3, .int (w)), (2, .int (v)), (1, .ref (ad 170)), (0, .ref (ad 0))]) F.1 F.2.1 dL_does_168 hl (by decide) rfl (fun ls hl => ?_)
    by_cases hn20 : n = 20
    · have hfull := hn20
      refine lv_aload_n F.1 F.2.1 dL_does_170 rfl (lv_at hl 8 rfl) ?_
      refine lv_iload F.1 F.2.1 dL_does_171 (lv_at hl 2 rfl) ?_
      refine lv_iload F.1 F.2.1 dL_does_173 (lv_at hl 1 rfl) ?_
      refine lv_iload F.1 F.2.1 dL_does_175 (lv_at hl 0 rfl) ?_
      have hp : (0 : Int32) ≤ 2 ∧ (2 : Int32) ≤ 2 ∧ 1 ≤ nI (20 + j3) ∧ nI (20 + j3) ≤ (if (2 : Int32) = 2 then 99 else 9) := ⟨by decide, by decide, nI_le (a := 1) (by omega) (by omega), by rw [if_pos rfl]; exact nI_le (b := 99) (by omega) (by decide)⟩
      refine w_calli F hP hS (k_part_e l D Y ad N hI hN _ hL (nI j1) 2 (nI (20 + j3)) (-4) (pe_full (by rw [h4, hn20]) (by omega) hp) (by decide) hJ.1 (by omega)) (cwVm 3 F.2.2.2.2.1 (fun _ h => h) mw_192 mw_733 mw_190 mw_191 mw_2 rfl rfl ydX7_part ⟨by decide, by decide⟩) (by omega) (ls_at hL) rfl rfl hl.1 rfl (Nat.le_of_ble_eq_true rfl) dL_does_177 ⟨Nat.zero_le _, Nat.zero_le _⟩ (fun r4 C2 H locs hq hP hS => ?_)
      obtain ⟨hw4, hr4⟩ := hq; rw [hw4] at hP
      subst hr4
      refine lv_istore (lv' := [(9, .int ((-4))), (8, .int (nI (20 + j3))), (7, .int (2)), (6, .int (nI j1)), (5, .int (rr)), (4, .int (nI n)), (3, .int (w)), (2, .int (v)), (1, .ref (ad 170)), (0, .ref (ad 0))]) F.1 F.2.1 dL_does_180 hl (by decide) rfl (fun ls hl => ?_)
      refine lv_iload F.1 F.2.1 dL_does_182 (lv_at hl 5 rfl) ?_
      refine lv_bipush (v := 20) F.1 F.2.1 dL_does_184 (by decide) ?_
      refine lv_icmp_ne (tgt := 204) F.1 F.2.1 dL_does_186 (by decide) (fun c31 => False.elim (c31 (by rw [hn20]; rfl))) (fun c31 => ?_)
      refine lv_iload F.1 F.2.1 dL_does_189 (lv_at hl 0 rfl) ?_
      refine lv_bipush (v := (-4)) F.1 F.2.1 dL_does_191 (by decide) ?_
      refine lv_icmp_ne (tgt := 200) F.1 F.2.1 dL_does_193 (by decide) (fun c32 => False.elim (by revert c32; decide)) (fun c32 => ?_)
      refine lv_iconst (v := 1) F.1 F.2.1 dL_does_196 (by decide) ?_
      refine lv_goto (tgt := 262) F.1 F.2.1 dL_does_197 (by decide) ?_
      exact w_zret F hr hlocks hP hS (Or.inr rfl) dL_does_262 ⟨rfl, _, _, _, ⟨hL, _, hH⟩, (J_mono (by omega) hJ)⟩
    · have hn19 : n < 20 := by omega
      refine lv_aload_n F.1 F.2.1 dL_does_170 rfl (lv_at hl 8 rfl) ?_
      refine lv_iload F.1 F.2.1 dL_does_171 (lv_at hl 2 rfl) ?_
      refine lv_iload F.1 F.2.1 dL_does_173 (lv_at hl 1 rfl) ?_
      refine lv_iload F.1 F.2.1 dL_does_175 (lv_at hl 0 rfl) ?_
      have hp : (0 : Int32) ≤ 2 ∧ (2 : Int32) ≤ 2 ∧ 1 ≤ nI (20 + j3) ∧ nI (20 + j3) ≤ (if (2 : Int32) = 2 then 99 else 9) := ⟨by decide, by decide, nI_le (a := 1) (by omega) (by omega), by rw [if_pos rfl]; exact nI_le (b := 99) (by omega) (by decide)⟩
      refine w_calli F hP hS (k_part l D Y ad N hI hN _ hL (nI j1) 2 (nI (20 + j3)) (pe_ok h4 (by omega) (by omega) hp) hJ.1 (by omega)) (cwVm 3 F.2.2.2.2.1 (fun _ h => h) mw_192 mw_733 mw_190 mw_191 mw_2 rfl rfl ydX7_part ⟨by decide, by decide⟩) (by omega) (ls_at hL) rfl rfl hl.1 rfl (Nat.le_of_ble_eq_true rfl) dL_does_177 ⟨Nat.zero_le _, Nat.zero_le _⟩ (fun r4 C4 H locs hq hP hS => ?_)
      obtain ⟨hr4, hL4, hz4⟩ := hq
      have hH4 := hz4.trans hH
      have hr4 := hr4.trans (show f 4 + 1 = nI (n + 1) by rw [h4, ← nI_succ])
      subst hr4
      rw [nI_clamp (show j1 < 2 ^ 31 by omega)] at hL4
      have hg4 : T_insert j1 2 (nI (20 + j3)) f 4 = nI (n + 1) := show f 4 + 1 = nI (n + 1) by rw [h4, ← nI_succ]
      have hJ1 : J (B + 100) (T_insert j1 2 (nI (20 + j3)) f) := J_mono (by omega) (J_ins hB0 hJ (by omega) (by omega) h4 hp)
      refine lv_istore (lv' := [(9, .int (nI (n + 1))), (8, .int (nI (20 + j3))), (7, .int (2)), (6, .int (nI j1)), (5, .int (rr)), (4, .int (nI n)), (3, .int (w)), (2, .int (v)), (1, .ref (ad 170)), (0, .ref (ad 0))]) F.1 F.2.1 dL_does_180 hl (by decide) rfl (fun ls hl => ?_)
      refine lv_iload F.1 F.2.1 dL_does_182 (lv_at hl 5 rfl) ?_
      refine lv_bipush (v := 20) F.1 F.2.1 dL_does_184 (by decide) ?_
      refine lv_icmp_ne (tgt := 204) F.1 F.2.1 dL_does_186 (by decide) (fun c33 => ?_) (fun c33 => False.elim (hn20 ((nI_eq (a := n) (b := 20) (by omega) (by decide)).mp c33)))
      refine lv_iload F.1 F.2.1 dL_does_204 (lv_at hl 0 rfl) ?_
      refine lv_iload F.1 F.2.1 dL_does_206 (lv_at hl 5 rfl) ?_
      refine lv_iconst (v := 1) F.1 F.2.1 dL_does_208 (by decide) ?_
      refine lv_iadd F.1 F.2.1 dL_does_209 ?_
      refine lv_topi (fun v34 ev34 => ?_)
      have ev34 : v34 = nI (n + 1) := ev34.trans (nI_succ n).symm
      subst ev34
      refine lv_icmp_ne (tgt := 261) F.1 F.2.1 dL_does_210 (by decide) (fun c35 => False.elim (c35 rfl)) (fun c35 => ?_)
      refine lv_aload_n F.1 F.2.1 dL_does_213 rfl (lv_at hl 9 rfl) ?_
      refine lv_iload F.1 F.2.1 dL_does_214 (lv_at hl 3 rfl) ?_
      refine lv_iconst (v := 0) F.1 F.2.1 dL_does_216 (by decide) ?_
      refine w_calli F hP hS (k_of l D Y ad N hI hN _ hL4 (nI j1) 0) (cwVm 2 F.2.2.2.2.1 (fun _ h => h) mw_445 mw_717 mw_443 mw_444 mw_2 rfl rfl ydX7_of ⟨by decide, by decide⟩) (by omega) (ls_at hL4) rfl rfl hl.1 rfl (Nat.le_of_ble_eq_true rfl) dL_does_217 ⟨Nat.zero_le _, Nat.zero_le _⟩ (fun r5 C2 H locs hq hP hS => ?_)
      obtain ⟨hw5, hr5⟩ := hq; rw [hw5] at hP
      have hr5 := hr5.trans ((of_0 hg4 hj1 (by omega)).trans ins_k0)
      subst hr5
      refine lv_iload F.1 F.2.1 dL_does_220 (lv_at hl 2 rfl) ?_
      refine lv_icmp_ne (tgt := 261) F.1 F.2.1 dL_does_222 (by decide) (fun c36 => False.elim (by revert c36; decide)) (fun c36 => ?_)
      refine lv_aload_n F.1 F.2.1 dL_does_225 rfl (lv_at hl 9 rfl) ?_
      refine lv_iload F.1 F.2.1 dL_does_226 (lv_at hl 3 rfl) ?_
      refine lv_iconst (v := 1) F.1 F.2.1 dL_does_228 (by decide) ?_
      refine w_calli F hP hS (k_of l D Y ad N hI hN _ hL4 (nI j1) 1) (cwVm 2 F.2.2.2.2.1 (fun _ h => h) mw_445 mw_717 mw_443 mw_444 mw_2 rfl rfl ydX7_of ⟨by decide, by decide⟩) (by omega) (ls_at hL4) rfl rfl hl.1 rfl (Nat.le_of_ble_eq_true rfl) dL_does_229 ⟨Nat.zero_le _, Nat.zero_le _⟩ (fun r6 C2 H locs hq hP hS => ?_)
      obtain ⟨hw6, hr6⟩ := hq; rw [hw6] at hP
      have hr6 := hr6.trans ((of_1 hg4 hj1 (by omega)).trans ins_k1)
      subst hr6
      refine lv_iload F.1 F.2.1 dL_does_232 (lv_at hl 1 rfl) ?_
      refine lv_icmp_ne (tgt := 261) F.1 F.2.1 dL_does_234 (by decide) (fun c37 => False.elim (c37 rfl)) (fun c37 => ?_)
      refine lv_aload_n F.1 F.2.1 dL_does_237 rfl (lv_at hl 9 rfl) ?_
      refine lv_iload F.1 F.2.1 dL_does_238 (lv_at hl 3 rfl) ?_
      refine lv_iconst (v := 2) F.1 F.2.1 dL_does_240 (by decide) ?_
      refine w_calli F hP hS (k_of l D Y ad N hI hN _ hL4 (nI j1) 2) (cwVm 2 F.2.2.2.2.1 (fun _ h => h) mw_445 mw_717 mw_443 mw_444 mw_2 rfl rfl ydX7_of ⟨by decide, by decide⟩) (by omega) (ls_at hL4) rfl rfl hl.1 rfl (Nat.le_of_ble_eq_true rfl) dL_does_241 ⟨Nat.zero_le _, Nat.zero_le _⟩ (fun r7 C2 H locs hq hP hS => ?_)
      obtain ⟨hw7, hr7⟩ := hq; rw [hw7] at hP
      have hr7 := hr7.trans ((of_2 hg4 hj1 (by omega)).trans ins_k2)
      subst hr7
      refine lv_if_ne (tgt := 261) F.1 F.2.1 dL_does_244 (by decide) (fun c38 => False.elim (by revert c38; decide)) (fun c38 => ?_)
      refine lv_aload_n F.1 F.2.1 dL_does_247 rfl (lv_at hl 9 rfl) ?_
      refine lv_iconst (v := 0) F.1 F.2.1 dL_does_248 (by decide) ?_
      refine w_calli F hP hS (k_ofHoop l D Y ad N hI hN _ hL4 0) (cwVm 1 F.2.2.2.2.1 (fun _ h => h) mw_454 mw_719 mw_452 mw_453 mw_2 rfl rfl ydX7_ofHoop ⟨by decide, by decide⟩) (by omega) (ls_at hL4) rfl rfl hl.1 rfl (Nat.le_of_ble_eq_true rfl) dL_does_249 ⟨Nat.zero_le _, Nat.zero_le _⟩ (fun r8 C2 H locs hq hP hS => ?_)
      obtain ⟨hw8, hr8⟩ := hq; rw [hw8] at hP
      have hr8 := hr8.trans (oh_no (by decide) rfl)
      subst hr8
      refine lv_bipush (v := (-6)) F.1 F.2.1 dL_does_252 (by decide) ?_
      refine lv_icmp_ne (tgt := 261) F.1 F.2.1 dL_does_254 (by decide) (fun c39 => False.elim (by revert c39; decide)) (fun c39 => ?_)
      refine lv_iconst (v := 1) F.1 F.2.1 dL_does_257 (by decide) ?_
      refine lv_goto (tgt := 262) F.1 F.2.1 dL_does_258 (by decide) ?_
      exact w_zret F hr hlocks hP hS (Or.inr rfl) dL_does_262 ⟨rfl, _, _, _, ⟨hL4, _, hH4⟩, hJ1⟩
set_option maxRecDepth 20000 in
set_option maxHeartbeats 4000000 in
theorem does_263 {p : Program} {l : Launch} {e : Env} {s : State} {m : MethodId} {below : List Frame} {meth : Method} {c : Code} {args : Array Value} {D : va_G} {Y : Nat → ClassId} {ad : Nat → Nat} {N : Nat} (hI : wI ad N) (hN : 171 ≤ N) (F : wFix p s m c args cL_does RL 20 D Y ad N) (hr : meth.sig.returnType = some .boolean) (hlocks : meth.locks = false) {C : Nat → va_E} {f : Nat → Int32} {sl : Nat → Nat → Int32} {sv : Nat → Int32} {hv : Nat → Int32} {B : Int} {H : Heap} {locs : List Loc} (hP : wP D ad N C H) (hS : va_S (wA ad N) s.heap H locs) (hL : kLS Y ad C f sl sv) (hH : C 170 = .inl (Y 0, 8, .inl hv)) (hJ : J B f) (hB0 : 0 ≤ B) (hB : B + 7000 ≤ 900000000) {n : Nat} (h4 : f 4 = nI n) (hn : n ≤ 20) {v w : Int32} {rr : Int32} {ls : Array Slot} (hl : lv_has ls 20 [(5, .int rr), (4, .int (nI n)), (3, .int w), (2, .int v), (1, .ref (ad 170)), (0, .ref (ad 0))]) : W p l e { frames := 9, cells := 0, slots := 0, locals := 213 } s m args below meth c H locs 0 0 (MQ below (wQi D ad N (fun r C' => r = 1 ∧ ∃ (f' : Nat → Int32) (sl' : Nat → Nat → Int32) (sv' : Nat → Int32), kLT Y ad C' f' sl' sv' ∧ J (B + 100) f')) args s 0 0 (wA ad N)) (F0 m 263 ls []) := by
  refine lv_iload_n F.1 F.2.1 dL_does_263 rfl (lv_at hl 2 rfl) ?_
  refine lv_bipush (v := 21) F.1 F.2.1 dL_does_264 (by decide) ?_
  refine w_calls F hP hS (c_L_low l D Y ad N hI _ w 21 (by omega) (by omega)) (cwSm 2 F.2.2.2.2.1 (fun _ h => h) mw_731 mw_729 mw_730 mw_714 rfl rfl ydL_low ⟨by decide, by decide⟩) rfl hl.1 rfl (Nat.le_of_ble_eq_true rfl) dL_does_266 ⟨Nat.zero_le _, Nat.zero_le _⟩ (fun r1 C2 H locs hq hP hS => ?_)
  obtain ⟨hw1, j1, hj1, hr1⟩ := hq; rw [hw1] at hP; subst hr1
  refine lv_istore (lv' := [(10, .int (nI j1)), (5, .int (rr)), (4, .int (nI n)), (3, .int (w)), (2, .int (v)), (1, .ref (ad 170)), (0, .ref (ad 0))]) F.1 F.2.1 dL_does_269 hl (by decide) rfl (fun ls hl => ?_)
  refine lv_iload_n F.1 F.2.1 dL_does_271 rfl (lv_at hl 3 rfl) ?_
  refine lv_bipush (v := 8) F.1 F.2.1 dL_does_272 (by decide) ?_
  refine lv_ishr F.1 F.2.1 dL_does_274 ?_
  refine lv_iconst (v := 1) F.1 F.2.1 dL_does_275 (by decide) ?_
  refine lv_iand F.1 F.2.1 dL_does_276 ?_
  refine lv_if_eq (tgt := 321) F.1 F.2.1 dL_does_277 (by decide) (fun c1 => ?_) (fun c1 => ?_)
  · refine lv_iconst (v := 1) F.1 F.2.1 dL_does_321 (by decide) ?_
    refine lv_goto (tgt := 326) F.1 F.2.1 dL_does_322 (by decide) ?_
    exact w_zret F hr hlocks hP hS (Or.inr rfl) dL_does_326 ⟨rfl, _, _, _, ⟨hL, _, hH⟩, (J_mono (by omega) hJ)⟩
  · by_cases hjo : j1 < n
    · have hjo1 : 1 ≤ n := by omega
      refine lv_aload_n F.1 F.2.1 dL_does_280 rfl (lv_at hl 6 rfl) ?_
      refine lv_iload F.1 F.2.1 dL_does_281 (lv_at hl 0 rfl) ?_
      refine w_calli F hP hS (k_takeAway l D Y ad N hI hN _ hL (nI j1) ⟨nI_le (a := 0) (Nat.zero_le _) (by omega), by rw [h4]; exact nI_lt hjo (by omega), nI_lt (b := 20) (by omega) (by decide)⟩ hJ.1 (by omega)) (cwVm 1 F.2.2.2.2.1 (fun _ h => h) mw_230 mw_734 mw_228 mw_229 mw_2 rfl rfl ydX7_takeAway ⟨by decide, by decide⟩) (by omega) (ls_at hL) rfl rfl hl.1 rfl (Nat.le_of_ble_eq_true rfl) dL_does_283 ⟨Nat.zero_le _, Nat.zero_le _⟩ (fun r2 C2 H locs hq hP hS => ?_)
      obtain ⟨hr2, hL2, hz2⟩ := hq
      have hH2 := hz2.trans hH
      have hr2 := hr2.trans (show f 4 - 1 = nI (n - 1) by rw [h4]; exact pk_sub (b := 1) (by omega))
      subst hr2
      rw [nI_clamp (show j1 < 2 ^ 31 by omega)] at hL2
      have hJ1 : J (B + 100) (T_remove j1 f) := J_mono (by omega) (J_rem hJ hjo hn h4)
      refine lv_iload F.1 F.2.1 dL_does_286 (lv_at hl 0 rfl) ?_
      refine lv_iload F.1 F.2.1 dL_does_288 (lv_at hl 2 rfl) ?_
      refine lv_icmp_ge (tgt := 300) F.1 F.2.1 dL_does_290 (by decide) (fun c2 => False.elim (nI_ge hjo (by omega) c2)) (fun c2 => ?_)
      refine lv_iload F.1 F.2.1 dL_does_293 (lv_at hl 2 rfl) ?_
      refine lv_iconst (v := 1) F.1 F.2.1 dL_does_295 (by decide) ?_
      refine lv_isub F.1 F.2.1 dL_does_296 ?_
      refine lv_topi (fun v3 ev3 => ?_)
      have ev3 : v3 = nI (n - 1) := ev3.trans (pk_sub (b := 1) hjo1)
      subst ev3
      refine lv_goto (tgt := 301) F.1 F.2.1 dL_does_297 (by decide) ?_
      refine lv_icmp_ne (tgt := 325) F.1 F.2.1 dL_does_301 (by decide) (fun c4 => False.elim (c4 rfl)) (fun c4 => ?_)
      refine lv_iload F.1 F.2.1 dL_does_304 (lv_at hl 0 rfl) ?_
      refine lv_iload F.1 F.2.1 dL_does_306 (lv_at hl 2 rfl) ?_
      refine lv_icmp_ge (tgt := 321) F.1 F.2.1 dL_does_308 (by decide) (fun c5 => False.elim (nI_ge hjo (by omega) c5)) (fun c5 => ?_)
      refine lv_aload_n F.1 F.2.1 dL_does_311 rfl (lv_at hl 6 rfl) ?_
      refine lv_iconst (v := 5) F.1 F.2.1 dL_does_312 (by decide) ?_
      refine w_calli F hP hS (k_ofHoop l D Y ad N hI hN _ hL2 5) (cwVm 1 F.2.2.2.2.1 (fun _ h => h) mw_454 mw_719 mw_452 mw_453 mw_2 rfl rfl ydX7_ofHoop ⟨by decide, by decide⟩) (by omega) (ls_at hL2) rfl rfl hl.1 rfl (Nat.le_of_ble_eq_true rfl) dL_does_313 ⟨Nat.zero_le _, Nat.zero_le _⟩ (fun r3 C2 H locs hq hP hS => ?_)
      obtain ⟨hw3, hr3⟩ := hq; rw [hw3] at hP
      have hr3 := hr3.trans (oh_no (by decide) rfl)
      subst hr3
      refine lv_bipush (v := (-6)) F.1 F.2.1 dL_does_316 (by decide) ?_
      refine lv_icmp_ne (tgt := 325) F.1 F.2.1 dL_does_318 (by decide) (fun c6 => False.elim (by revert c6; decide)) (fun c6 => ?_)
      refine lv_iconst (v := 1) F.1 F.2.1 dL_does_321 (by decide) ?_
      refine lv_goto (tgt := 326) F.1 F.2.1 dL_does_322 (by decide) ?_
      exact w_zret F hr hlocks hP hS (Or.inr rfl) dL_does_326 ⟨rfl, _, _, _, ⟨hL2, _, hH2⟩, hJ1⟩
    · have hjo1 : n ≤ j1 := by omega
      refine lv_aload_n F.1 F.2.1 dL_does_280 rfl (lv_at hl 6 rfl) ?_
      refine lv_iload F.1 F.2.1 dL_does_281 (lv_at hl 0 rfl) ?_
      refine w_calli F hP hS (k_takeAway_e l D Y ad N hI hN _ hL (nI j1) (fun q => by rw [h4] at q; exact hjo ((nI_ltI (a := j1) (b := n) (by omega) (by omega)).mp q.2.1)) hJ.1 (by omega)) (cwVm 1 F.2.2.2.2.1 (fun _ h => h) mw_230 mw_734 mw_228 mw_229 mw_2 rfl rfl ydX7_takeAway ⟨by decide, by decide⟩) (by omega) (ls_at hL) rfl rfl hl.1 rfl (Nat.le_of_ble_eq_true rfl) dL_does_283 ⟨Nat.zero_le _, Nat.zero_le _⟩ (fun r2 C2 H locs hq hP hS => ?_)
      obtain ⟨hw2, hr2⟩ := hq; rw [hw2] at hP
      subst hr2
      refine lv_iload F.1 F.2.1 dL_does_286 (lv_at hl 0 rfl) ?_
      refine lv_iload F.1 F.2.1 dL_does_288 (lv_at hl 2 rfl) ?_
      refine lv_icmp_ge (tgt := 300) F.1 F.2.1 dL_does_290 (by decide) (fun c7 => ?_) (fun c7 => False.elim (c7 (nI_le (by omega) (by omega))))
      refine lv_iconst (v := (-1)) F.1 F.2.1 dL_does_300 (by decide) ?_
      refine lv_icmp_ne (tgt := 325) F.1 F.2.1 dL_does_301 (by decide) (fun c8 => False.elim (c8 rfl)) (fun c8 => ?_)
      refine lv_iload F.1 F.2.1 dL_does_304 (lv_at hl 0 rfl) ?_
      refine lv_iload F.1 F.2.1 dL_does_306 (lv_at hl 2 rfl) ?_
      refine lv_icmp_ge (tgt := 321) F.1 F.2.1 dL_does_308 (by decide) (fun c9 => ?_) (fun c9 => False.elim (c9 (nI_le (by omega) (by omega))))
      refine lv_iconst (v := 1) F.1 F.2.1 dL_does_321 (by decide) ?_
      refine lv_goto (tgt := 326) F.1 F.2.1 dL_does_322 (by decide) ?_
      exact w_zret F hr hlocks hP hS (Or.inr rfl) dL_does_326 ⟨rfl, _, _, _, ⟨hL, _, hH⟩, (J_mono (by omega) hJ)⟩
set_option maxRecDepth 20000 in
set_option maxHeartbeats 4000000 in
theorem does_327 {p : Program} {l : Launch} {e : Env} {s : State} {m : MethodId} {below : List Frame} {meth : Method} {c : Code} {args : Array Value} {D : va_G} {Y : Nat → ClassId} {ad : Nat → Nat} {N : Nat} (hI : wI ad N) (hN : 171 ≤ N) (F : wFix p s m c args cL_does RL 20 D Y ad N) (hr : meth.sig.returnType = some .boolean) (hlocks : meth.locks = false) {C : Nat → va_E} {f : Nat → Int32} {sl : Nat → Nat → Int32} {sv : Nat → Int32} {hv : Nat → Int32} {B : Int} {H : Heap} {locs : List Loc} (hP : wP D ad N C H) (hS : va_S (wA ad N) s.heap H locs) (hL : kLS Y ad C f sl sv) (hH : C 170 = .inl (Y 0, 8, .inl hv)) (hJ : J B f) (hB0 : 0 ≤ B) (hB : B + 7000 ≤ 900000000) {n : Nat} (h4 : f 4 = nI n) (hn : n ≤ 20) {v w : Int32} {rr : Int32} {ls : Array Slot} (hl : lv_has ls 20 [(5, .int rr), (4, .int (nI n)), (3, .int w), (2, .int v), (1, .ref (ad 170)), (0, .ref (ad 0))]) : W p l e { frames := 9, cells := 0, slots := 0, locals := 213 } s m args below meth c H locs 0 0 (MQ below (wQi D ad N (fun r C' => r = 1 ∧ ∃ (f' : Nat → Int32) (sl' : Nat → Nat → Int32) (sv' : Nat → Int32), kLT Y ad C' f' sl' sv' ∧ J (B + 100) f')) args s 0 0 (wA ad N)) (F0 m 327 ls []) := by
  refine lv_aload_n F.1 F.2.1 dL_does_327 rfl (lv_at hl 5 rfl) ?_
  refine lv_iconst (v := 1) F.1 F.2.1 dL_does_328 (by decide) ?_
  refine w_calli F hP hS (k_count l D Y ad N hI hN _ hL 1 (by decide) hJ.1) (cwVm 1 F.2.2.2.2.1 (fun _ h => h) mw_482 mw_716 mw_480 mw_481 mw_2 rfl rfl ydX7_count ⟨by decide, by decide⟩) (by omega) (ls_at hL) rfl rfl hl.1 rfl (Nat.le_of_ble_eq_true rfl) dL_does_329 ⟨Nat.zero_le _, Nat.zero_le _⟩ (fun r1 C2 H locs hq hP hS => ?_)
  obtain ⟨hw1, hr1⟩ := hq; rw [hw1] at hP
  have hr1 := hr1.trans cn_1
  subst hr1
  refine lv_istore (lv' := [(11, .int (f 14)), (5, .int (rr)), (4, .int (nI n)), (3, .int (w)), (2, .int (v)), (1, .ref (ad 170)), (0, .ref (ad 0))]) F.1 F.2.1 dL_does_332 hl (by decide) rfl (fun ls hl => ?_)
  refine lv_iconst (v := 1) F.1 F.2.1 dL_does_334 (by decide) ?_
  refine lv_iload_n F.1 F.2.1 dL_does_335 rfl (lv_at hl 3 rfl) ?_
  refine lv_bipush (v := 60) F.1 F.2.1 dL_does_336 (by decide) ?_
  refine w_calls F hP hS (c_L_low l D Y ad N hI _ w 60 (by omega) (by omega)) (cwSm 2 F.2.2.2.2.1 (fun _ h => h) mw_731 mw_729 mw_730 mw_714 rfl rfl ydL_low ⟨by decide, by decide⟩) rfl hl.1 rfl (Nat.le_of_ble_eq_true rfl) dL_does_338 ⟨Nat.zero_le _, Nat.zero_le _⟩ (fun r2 C2 H locs hq hP hS => ?_)
  obtain ⟨hw2, j2, hj2, hr2⟩ := hq; rw [hw2] at hP; subst hr2
  refine lv_iadd F.1 F.2.1 dL_does_341 ?_
  refine lv_topi (fun v1 ev1 => ?_)
  have ev1 : v1 = nI (1 + j2) := ev1.trans (nI_add 1 j2)
  subst ev1
  refine lv_istore (lv' := [(12, .int (nI (1 + j2))), (11, .int (f 14)), (5, .int (rr)), (4, .int (nI n)), (3, .int (w)), (2, .int (v)), (1, .ref (ad 170)), (0, .ref (ad 0))]) F.1 F.2.1 dL_does_342 hl (by decide) rfl (fun ls hl => ?_)
  refine lv_aload_n F.1 F.2.1 dL_does_344 rfl (lv_at hl 7 rfl) ?_
  refine lv_iload F.1 F.2.1 dL_does_345 (lv_at hl 0 rfl) ?_
  refine w_calli F hP hS (k_hoop l D Y ad N hI hN _ hL (nI (1 + j2)) ⟨nI_le (a := 1) (by omega) (by omega), nI_le (b := 60) (by omega) (by decide)⟩ hJ.1 (by omega)) (cwVm 1 F.2.2.2.2.1 (fun _ h => h) mw_255 mw_735 mw_253 mw_254 mw_2 rfl rfl ydX7_hoop ⟨by decide, by decide⟩) (by omega) (ls_at hL) rfl rfl hl.1 rfl (Nat.le_of_ble_eq_true rfl) dL_does_347 ⟨Nat.zero_le _, Nat.zero_le _⟩ (fun r3 C3 H locs hq hP hS => ?_)
  obtain ⟨hr3, hL3, hz3⟩ := hq
  have hH3 := hz3.trans hH
  subst hr3
  have hJ1 : J (B + 100) (T_run (nI (1 + j2)) f) := J_mono (by omega) (J_run _ (nI_ge1 (by omega) (by omega)) hB0 (by omega) hJ)
  refine lv_iload F.1 F.2.1 dL_does_350 (lv_at hl 1 rfl) ?_
  refine lv_iconst (v := 1) F.1 F.2.1 dL_does_352 (by decide) ?_
  refine lv_iadd F.1 F.2.1 dL_does_353 ?_
  refine lv_icmp_ne (tgt := 432) F.1 F.2.1 dL_does_354 (by decide) (fun c2 => False.elim (c2 rfl)) (fun c2 => ?_)
  refine lv_aload_n F.1 F.2.1 dL_does_357 rfl (lv_at hl 7 rfl) ?_
  refine lv_iconst (v := 0) F.1 F.2.1 dL_does_358 (by decide) ?_
  refine w_calli F hP hS (k_ofHoop l D Y ad N hI hN _ hL3 0) (cwVm 1 F.2.2.2.2.1 (fun _ h => h) mw_454 mw_719 mw_452 mw_453 mw_2 rfl rfl ydX7_ofHoop ⟨by decide, by decide⟩) (by omega) (ls_at hL3) rfl rfl hl.1 rfl (Nat.le_of_ble_eq_true rfl) dL_does_359 ⟨Nat.zero_le _, Nat.zero_le _⟩ (fun r4 C2 H locs hq hP hS => ?_)
  obtain ⟨hw4, hr4⟩ := hq; rw [hw4] at hP
  have hr4 := hr4.trans ((oh_0 (f := T_run (nI (1 + j2)) f) rfl).trans (show T_run (nI (1 + j2)) f 6 = nI (1 + j2) from rfl))
  subst hr4
  refine lv_iload F.1 F.2.1 dL_does_362 (lv_at hl 0 rfl) ?_
  refine lv_icmp_ne (tgt := 432) F.1 F.2.1 dL_does_364 (by decide) (fun c3 => False.elim (c3 rfl)) (fun c3 => ?_)
  refine lv_aload_n F.1 F.2.1 dL_does_367 rfl (lv_at hl 7 rfl) ?_
  refine lv_iconst (v := 1) F.1 F.2.1 dL_does_368 (by decide) ?_
  refine w_calli F hP hS (k_ofHoop l D Y ad N hI hN _ hL3 1) (cwVm 1 F.2.2.2.2.1 (fun _ h => h) mw_454 mw_719 mw_452 mw_453 mw_2 rfl rfl ydX7_ofHoop ⟨by decide, by decide⟩) (by omega) (ls_at hL3) rfl rfl hl.1 rfl (Nat.le_of_ble_eq_true rfl) dL_does_369 ⟨Nat.zero_le _, Nat.zero_le _⟩ (fun r5 C2 H locs hq hP hS => ?_)
  obtain ⟨hw5, hr5⟩ := hq; rw [hw5] at hP
  have hr5 := hr5.trans ((oh_1 (f := T_run (nI (1 + j2)) f) rfl).trans (show T_run (nI (1 + j2)) f 7 = 10 from rfl))
  subst hr5
  refine lv_bipush (v := 10) F.1 F.2.1 dL_does_372 (by decide) ?_
  refine lv_icmp_ne (tgt := 432) F.1 F.2.1 dL_does_374 (by decide) (fun c4 => False.elim (by revert c4; decide)) (fun c4 => ?_)
  refine lv_aload_n F.1 F.2.1 dL_does_377 rfl (lv_at hl 7 rfl) ?_
  refine lv_iconst (v := 2) F.1 F.2.1 dL_does_378 (by decide) ?_
  refine w_calli F hP hS (k_ofHoop l D Y ad N hI hN _ hL3 2) (cwVm 1 F.2.2.2.2.1 (fun _ h => h) mw_454 mw_719 mw_452 mw_453 mw_2 rfl rfl ydX7_ofHoop ⟨by decide, by decide⟩) (by omega) (ls_at hL3) rfl rfl hl.1 rfl (Nat.le_of_ble_eq_true rfl) dL_does_379 ⟨Nat.zero_le _, Nat.zero_le _⟩ (fun r6 C2 H locs hq hP hS => ?_)
  obtain ⟨hw6, hr6⟩ := hq; rw [hw6] at hP
  have hr6 := hr6.trans ((oh_2 (f := T_run (nI (1 + j2)) f) rfl).trans (show (0 : Int32) + 500 = 500 by decide))
  subst hr6
  refine lv_sipush (v := 500) F.1 F.2.1 dL_does_382 (by decide) ?_
  refine lv_icmp_ne (tgt := 432) F.1 F.2.1 dL_does_385 (by decide) (fun c5 => False.elim (by revert c5; decide)) (fun c5 => ?_)
  refine lv_aload_n F.1 F.2.1 dL_does_388 rfl (lv_at hl 7 rfl) ?_
  refine lv_iconst (v := 3) F.1 F.2.1 dL_does_389 (by decide) ?_
  refine w_calli F hP hS (k_ofHoop l D Y ad N hI hN _ hL3 3) (cwVm 1 F.2.2.2.2.1 (fun _ h => h) mw_454 mw_719 mw_452 mw_453 mw_2 rfl rfl ydX7_ofHoop ⟨by decide, by decide⟩) (by omega) (ls_at hL3) rfl rfl hl.1 rfl (Nat.le_of_ble_eq_true rfl) dL_does_390 ⟨Nat.zero_le _, Nat.zero_le _⟩ (fun r7 C2 H locs hq hP hS => ?_)
  obtain ⟨hw7, hr7⟩ := hq; rw [hw7] at hP
  have hr7 := hr7.trans ((oh_3 (f := T_run (nI (1 + j2)) f) rfl).trans (show T_run (nI (1 + j2)) f 9 = 0 from rfl))
  subst hr7
  refine lv_if_ne (tgt := 432) F.1 F.2.1 dL_does_393 (by decide) (fun c6 => False.elim (by revert c6; decide)) (fun c6 => ?_)
  refine lv_aload_n F.1 F.2.1 dL_does_396 rfl (lv_at hl 7 rfl) ?_
  refine lv_iconst (v := 4) F.1 F.2.1 dL_does_397 (by decide) ?_
  refine w_calli F hP hS (k_ofHoop l D Y ad N hI hN _ hL3 4) (cwVm 1 F.2.2.2.2.1 (fun _ h => h) mw_454 mw_719 mw_452 mw_453 mw_2 rfl rfl ydX7_ofHoop ⟨by decide, by decide⟩) (by omega) (ls_at hL3) rfl rfl hl.1 rfl (Nat.le_of_ble_eq_true rfl) dL_does_398 ⟨Nat.zero_le _, Nat.zero_le _⟩ (fun r8 C2 H locs hq hP hS => ?_)
  obtain ⟨hw8, hr8⟩ := hq; rw [hw8] at hP
  have hr8 := hr8.trans ((oh_4 (f := T_run (nI (1 + j2)) f) rfl).trans (show T_run (nI (1 + j2)) f 10 = 0 from rfl))
  subst hr8
  refine lv_if_ne (tgt := 432) F.1 F.2.1 dL_does_401 (by decide) (fun c7 => False.elim (by revert c7; decide)) (fun c7 => ?_)
  refine lv_aload_n F.1 F.2.1 dL_does_404 rfl (lv_at hl 7 rfl) ?_
  refine lv_iconst (v := 5) F.1 F.2.1 dL_does_405 (by decide) ?_
  refine w_calli F hP hS (k_ofHoop l D Y ad N hI hN _ hL3 5) (cwVm 1 F.2.2.2.2.1 (fun _ h => h) mw_454 mw_719 mw_452 mw_453 mw_2 rfl rfl ydX7_ofHoop ⟨by decide, by decide⟩) (by omega) (ls_at hL3) rfl rfl hl.1 rfl (Nat.le_of_ble_eq_true rfl) dL_does_406 ⟨Nat.zero_le _, Nat.zero_le _⟩ (fun r9 C2 H locs hq hP hS => ?_)
  obtain ⟨hw9, hr9⟩ := hq; rw [hw9] at hP
  have hr9 := hr9.trans ((oh_5 (f := T_run (nI (1 + j2)) f) rfl).trans (show T_run (nI (1 + j2)) f 11 = 0 from rfl))
  subst hr9
  refine lv_if_ne (tgt := 432) F.1 F.2.1 dL_does_409 (by decide) (fun c8 => False.elim (by revert c8; decide)) (fun c8 => ?_)
  refine lv_aload_n F.1 F.2.1 dL_does_412 rfl (lv_at hl 7 rfl) ?_
  refine lv_bipush (v := 6) F.1 F.2.1 dL_does_413 (by decide) ?_
  refine w_calli F hP hS (k_ofHoop l D Y ad N hI hN _ hL3 6) (cwVm 1 F.2.2.2.2.1 (fun _ h => h) mw_454 mw_719 mw_452 mw_453 mw_2 rfl rfl ydX7_ofHoop ⟨by decide, by decide⟩) (by omega) (ls_at hL3) rfl rfl hl.1 rfl (Nat.le_of_ble_eq_true rfl) dL_does_415 ⟨Nat.zero_le _, Nat.zero_le _⟩ (fun r10 C2 H locs hq hP hS => ?_)
  obtain ⟨hw10, hr10⟩ := hq; rw [hw10] at hP
  have hr10 := hr10.trans ((oh_6 (f := T_run (nI (1 + j2)) f) rfl).trans (show T_run (nI (1 + j2)) f 12 = 0 from rfl))
  subst hr10
  refine lv_aload_n F.1 F.2.1 dL_does_418 rfl (lv_at hl 7 rfl) ?_
  refine lv_bipush (v := 7) F.1 F.2.1 dL_does_419 (by decide) ?_
  refine w_calli F hP hS (k_ofHoop l D Y ad N hI hN _ hL3 7) (cwVm 1 F.2.2.2.2.1 (fun _ h => h) mw_454 mw_719 mw_452 mw_453 mw_2 rfl rfl ydX7_ofHoop ⟨by decide, by decide⟩) (by omega) (ls_at hL3) rfl rfl hl.1 rfl (Nat.le_of_ble_eq_true rfl) dL_does_421 ⟨Nat.zero_le _, Nat.zero_le _⟩ (fun r11 C2 H locs hq hP hS => ?_)
  obtain ⟨hw11, hr11⟩ := hq; rw [hw11] at hP
  have hr11 := hr11.trans ((oh_7 (f := T_run (nI (1 + j2)) f) rfl).trans (show T_run (nI (1 + j2)) f 13 = 0 from rfl))
  subst hr11
  refine lv_iadd F.1 F.2.1 dL_does_424 ?_
  refine lv_topi (fun v9 ev9 => ?_)
  have ev9 : v9 = 0 := ev9.trans (by decide)
  subst ev9
  refine lv_if_ne (tgt := 432) F.1 F.2.1 dL_does_425 (by decide) (fun c10 => False.elim (by revert c10; decide)) (fun c10 => ?_)
  refine lv_iconst (v := 1) F.1 F.2.1 dL_does_428 (by decide) ?_
  refine lv_goto (tgt := 433) F.1 F.2.1 dL_does_429 (by decide) ?_
  exact w_zret F hr hlocks hP hS (Or.inr rfl) dL_does_433 ⟨rfl, _, _, _, ⟨hL3, _, hH3⟩, hJ1⟩
set_option maxRecDepth 20000 in
set_option maxHeartbeats 4000000 in
theorem does_434_r {p : Program} {l : Launch} {e : Env} {s : State} {m : MethodId} {below : List Frame} {meth : Method} {c : Code} {args : Array Value} {D : va_G} {Y : Nat → ClassId} {ad : Nat → Nat} {N : Nat} (hI : wI ad N) (hN : 171 ≤ N) (F : wFix p s m c args cL_does RL 20 D Y ad N) (hr : meth.sig.returnType = some .boolean) (hlocks : meth.locks = false) {C : Nat → va_E} {f : Nat → Int32} {sl : Nat → Nat → Int32} {sv : Nat → Int32} {hv : Nat → Int32} {B : Int} {H : Heap} {locs : List Loc} (hP : wP D ad N C H) (hS : va_S (wA ad N) s.heap H locs) (hL : kLS Y ad C f sl sv) (hH : C 170 = .inl (Y 0, 8, .inl hv)) (hJ : J B f) (hB0 : 0 ≤ B) (hB : B + 7000 ≤ 900000000) {n : Nat} (h4 : f 4 = nI n) (hn : n ≤ 20) {v w : Int32} (h5 : f 5 = 1) (h11 : f 11 = 0) {ls : Array Slot} (hl : lv_has ls 20 [(5, .int 1), (4, .int (nI n)), (3, .int w), (2, .int v), (1, .ref (ad 170)), (0, .ref (ad 0))]) : W p l e { frames := 9, cells := 0, slots := 0, locals := 213 } s m args below meth c H locs 0 0 (MQ below (wQi D ad N (fun r C' => r = 1 ∧ ∃ (f' : Nat → Int32) (sl' : Nat → Nat → Int32) (sv' : Nat → Int32), kLT Y ad C' f' sl' sv' ∧ J (B + 100) f')) args s 0 0 (wA ad N)) (F0 m 434 ls []) := by
  refine lv_aload_n F.1 F.2.1 dL_does_434 rfl (lv_at hl 5 rfl) ?_
  refine lv_iconst (v := 1) F.1 F.2.1 dL_does_435 (by decide) ?_
  refine w_calli F hP hS (k_ofHoop l D Y ad N hI hN _ hL 1) (cwVm 1 F.2.2.2.2.1 (fun _ h => h) mw_454 mw_719 mw_452 mw_453 mw_2 rfl rfl ydX7_ofHoop ⟨by decide, by decide⟩) (by omega) (ls_at hL) rfl rfl hl.1 rfl (Nat.le_of_ble_eq_true rfl) dL_does_436 ⟨Nat.zero_le _, Nat.zero_le _⟩ (fun r1 C2 H locs hq hP hS => ?_)
  obtain ⟨hw1, hr1⟩ := hq; rw [hw1] at hP
  have hr1 := hr1.trans (oh_1 h5)
  subst hr1
  refine lv_istore (lv' := [(13, .int (f 7)), (5, .int (1)), (4, .int (nI n)), (3, .int (w)), (2, .int (v)), (1, .ref (ad 170)), (0, .ref (ad 0))]) F.1 F.2.1 dL_does_439 hl (by decide) rfl (fun ls hl => ?_)
  refine lv_aload_n F.1 F.2.1 dL_does_441 rfl (lv_at hl 6 rfl) ?_
  refine w_calli F hP hS (k_push l D Y ad N hI hN _ hL h5 h11 hJ.1 (by omega)) (cwVm 0 F.2.2.2.2.1 (fun _ h => h) mw_421 mw_736 mw_419 mw_420 mw_2 rfl rfl ydX7_push ⟨by decide, by decide⟩) (by omega) (ls_at hL) rfl rfl hl.1 rfl (Nat.le_of_ble_eq_true rfl) dL_does_442 ⟨Nat.zero_le _, Nat.zero_le _⟩ (fun r2 C2 H locs hq hP hS => ?_)
  obtain ⟨hr2, hL2, hz2⟩ := hq
  have hH2 := hz2.trans hH
  have hr2 := hr2.trans (show T_push f 7 = mn99 (f 7 + 5) from rfl)
  subst hr2
  have hJ1 : J (B + 100) (T_push f) := J_mono (by omega) (J_push hJ)
  refine lv_iload F.1 F.2.1 dL_does_445 (lv_at hl 1 rfl) ?_
  refine lv_if_ne (tgt := 455) F.1 F.2.1 dL_does_447 (by decide) (fun c1 => ?_) (fun c1 => False.elim (by revert c1; decide))
  refine lv_iload F.1 F.2.1 dL_does_455 (lv_at hl 0 rfl) ?_
  refine lv_bipush (v := 94) F.1 F.2.1 dL_does_457 (by decide) ?_
  refine lv_icmp_le (tgt := 467) F.1 F.2.1 dL_does_459 (by decide) (fun c2 => ?_) (fun c2 => ?_)
  · refine lv_iload F.1 F.2.1 dL_does_467 (lv_at hl 0 rfl) ?_
    refine lv_iconst (v := 5) F.1 F.2.1 dL_does_469 (by decide) ?_
    refine lv_iadd F.1 F.2.1 dL_does_470 ?_
    refine lv_icmp_ne (tgt := 478) F.1 F.2.1 dL_does_471 (by decide) (fun c3 => False.elim (c3 ((mn_push (hJ.1.2.2.1 h5).1).1 c2))) (fun c3 => ?_)
    refine lv_iconst (v := 1) F.1 F.2.1 dL_does_474 (by decide) ?_
    refine lv_goto (tgt := 479) F.1 F.2.1 dL_does_475 (by decide) ?_
    exact w_zret F hr hlocks hP hS (Or.inr rfl) dL_does_479 ⟨rfl, _, _, _, ⟨hL2, _, hH2⟩, hJ1⟩
  · refine lv_bipush (v := 99) F.1 F.2.1 dL_does_462 (by decide) ?_
    refine lv_goto (tgt := 471) F.1 F.2.1 dL_does_464 (by decide) ?_
    refine lv_icmp_ne (tgt := 478) F.1 F.2.1 dL_does_471 (by decide) (fun c4 => False.elim (c4 ((mn_push (hJ.1.2.2.1 h5).1).2 c2))) (fun c4 => ?_)
    refine lv_iconst (v := 1) F.1 F.2.1 dL_does_474 (by decide) ?_
    refine lv_goto (tgt := 479) F.1 F.2.1 dL_does_475 (by decide) ?_
    exact w_zret F hr hlocks hP hS (Or.inr rfl) dL_does_479 ⟨rfl, _, _, _, ⟨hL2, _, hH2⟩, hJ1⟩
set_option maxRecDepth 20000 in
set_option maxHeartbeats 4000000 in
theorem does_434_n {p : Program} {l : Launch} {e : Env} {s : State} {m : MethodId} {below : List Frame} {meth : Method} {c : Code} {args : Array Value} {D : va_G} {Y : Nat → ClassId} {ad : Nat → Nat} {N : Nat} (hI : wI ad N) (hN : 171 ≤ N) (F : wFix p s m c args cL_does RL 20 D Y ad N) (hr : meth.sig.returnType = some .boolean) (hlocks : meth.locks = false) {C : Nat → va_E} {f : Nat → Int32} {sl : Nat → Nat → Int32} {sv : Nat → Int32} {hv : Nat → Int32} {B : Int} {H : Heap} {locs : List Loc} (hP : wP D ad N C H) (hS : va_S (wA ad N) s.heap H locs) (hL : kLS Y ad C f sl sv) (hH : C 170 = .inl (Y 0, 8, .inl hv)) (hJ : J B f) (hB0 : 0 ≤ B) (hB : B + 7000 ≤ 900000000) {n : Nat} (h4 : f 4 = nI n) (hn : n ≤ 20) {v w : Int32} (hno : ¬ (f 5 = 1 ∧ f 11 = 0)) {ls : Array Slot} (hl : lv_has ls 20 [(5, .int 0), (4, .int (nI n)), (3, .int w), (2, .int v), (1, .ref (ad 170)), (0, .ref (ad 0))]) : W p l e { frames := 9, cells := 0, slots := 0, locals := 213 } s m args below meth c H locs 0 0 (MQ below (wQi D ad N (fun r C' => r = 1 ∧ ∃ (f' : Nat → Int32) (sl' : Nat → Nat → Int32) (sv' : Nat → Int32), kLT Y ad C' f' sl' sv' ∧ J (B + 100) f')) args s 0 0 (wA ad N)) (F0 m 434 ls []) := by
  refine lv_aload_n F.1 F.2.1 dL_does_434 rfl (lv_at hl 5 rfl) ?_
  refine lv_iconst (v := 1) F.1 F.2.1 dL_does_435 (by decide) ?_
  refine w_calli F hP hS (k_ofHoop l D Y ad N hI hN _ hL 1) (cwVm 1 F.2.2.2.2.1 (fun _ h => h) mw_454 mw_719 mw_452 mw_453 mw_2 rfl rfl ydX7_ofHoop ⟨by decide, by decide⟩) (by omega) (ls_at hL) rfl rfl hl.1 rfl (Nat.le_of_ble_eq_true rfl) dL_does_436 ⟨Nat.zero_le _, Nat.zero_le _⟩ (fun r1 C2 H locs hq hP hS => ?_)
  obtain ⟨hw1, hr1⟩ := hq; rw [hw1] at hP
  subst hr1
  refine lv_istore (lv' := [(13, .int (T_ofHoop f 1)), (5, .int (0)), (4, .int (nI n)), (3, .int (w)), (2, .int (v)), (1, .ref (ad 170)), (0, .ref (ad 0))]) F.1 F.2.1 dL_does_439 hl (by decide) rfl (fun ls hl => ?_)
  refine lv_aload_n F.1 F.2.1 dL_does_441 rfl (lv_at hl 6 rfl) ?_
  refine w_calli F hP hS (k_push_n l D Y ad N hI hN _ hL hno hJ.1 (by omega)) (cwVm 0 F.2.2.2.2.1 (fun _ h => h) mw_421 mw_736 mw_419 mw_420 mw_2 rfl rfl ydX7_push ⟨by decide, by decide⟩) (by omega) (ls_at hL) rfl rfl hl.1 rfl (Nat.le_of_ble_eq_true rfl) dL_does_442 ⟨Nat.zero_le _, Nat.zero_le _⟩ (fun r2 C2 H locs hq hP hS => ?_)
  obtain ⟨hw2, hr2⟩ := hq; rw [hw2] at hP
  subst hr2
  refine lv_iload F.1 F.2.1 dL_does_445 (lv_at hl 1 rfl) ?_
  refine lv_if_ne (tgt := 455) F.1 F.2.1 dL_does_447 (by decide) (fun c1 => False.elim (by revert c1; decide)) (fun c1 => ?_)
  refine lv_bipush (v := (-5)) F.1 F.2.1 dL_does_450 (by decide) ?_
  refine lv_goto (tgt := 471) F.1 F.2.1 dL_does_452 (by decide) ?_
  refine lv_icmp_ne (tgt := 478) F.1 F.2.1 dL_does_471 (by decide) (fun c2 => False.elim (c2 rfl)) (fun c2 => ?_)
  refine lv_iconst (v := 1) F.1 F.2.1 dL_does_474 (by decide) ?_
  refine lv_goto (tgt := 479) F.1 F.2.1 dL_does_475 (by decide) ?_
  exact w_zret F hr hlocks hP hS (Or.inr rfl) dL_does_479 ⟨rfl, _, _, _, ⟨hL, _, hH⟩, (J_mono (by omega) hJ)⟩
set_option maxRecDepth 20000 in
set_option maxHeartbeats 4000000 in
theorem does_480_r {p : Program} {l : Launch} {e : Env} {s : State} {m : MethodId} {below : List Frame} {meth : Method} {c : Code} {args : Array Value} {D : va_G} {Y : Nat → ClassId} {ad : Nat → Nat} {N : Nat} (hI : wI ad N) (hN : 171 ≤ N) (F : wFix p s m c args cL_does RL 20 D Y ad N) (hr : meth.sig.returnType = some .boolean) (hlocks : meth.locks = false) {C : Nat → va_E} {f : Nat → Int32} {sl : Nat → Nat → Int32} {sv : Nat → Int32} {hv : Nat → Int32} {B : Int} {H : Heap} {locs : List Loc} (hP : wP D ad N C H) (hS : va_S (wA ad N) s.heap H locs) (hL : kLS Y ad C f sl sv) (hH : C 170 = .inl (Y 0, 8, .inl hv)) (hJ : J B f) (hB0 : 0 ≤ B) (hB : B + 7000 ≤ 900000000) {n : Nat} (h4 : f 4 = nI n) (hn : n ≤ 20) {v w : Int32} (h5 : f 5 = 1) (h11 : f 11 = 0) {ls : Array Slot} (hl : lv_has ls 20 [(5, .int 1), (4, .int (nI n)), (3, .int w), (2, .int v), (1, .ref (ad 170)), (0, .ref (ad 0))]) : W p l e { frames := 9, cells := 0, slots := 0, locals := 213 } s m args below meth c H locs 0 0 (MQ below (wQi D ad N (fun r C' => r = 1 ∧ ∃ (f' : Nat → Int32) (sl' : Nat → Nat → Int32) (sv' : Nat → Int32), kLT Y ad C' f' sl' sv' ∧ J (B + 100) f')) args s 0 0 (wA ad N)) (F0 m 480 ls []) := by
  refine lv_aload_n F.1 F.2.1 dL_does_480 rfl (lv_at hl 5 rfl) ?_
  refine lv_iconst (v := 2) F.1 F.2.1 dL_does_481 (by decide) ?_
  refine w_calli F hP hS (k_ofHoop l D Y ad N hI hN _ hL 2) (cwVm 1 F.2.2.2.2.1 (fun _ h => h) mw_454 mw_719 mw_452 mw_453 mw_2 rfl rfl ydX7_ofHoop ⟨by decide, by decide⟩) (by omega) (ls_at hL) rfl rfl hl.1 rfl (Nat.le_of_ble_eq_true rfl) dL_does_482 ⟨Nat.zero_le _, Nat.zero_le _⟩ (fun r1 C2 H locs hq hP hS => ?_)
  obtain ⟨hw1, hr1⟩ := hq; rw [hw1] at hP
  have hr1 := hr1.trans (oh_2 h5)
  subst hr1
  refine lv_istore (lv' := [(14, .int (f 8 + 500)), (5, .int (1)), (4, .int (nI n)), (3, .int (w)), (2, .int (v)), (1, .ref (ad 170)), (0, .ref (ad 0))]) F.1 F.2.1 dL_does_485 hl (by decide) rfl (fun ls hl => ?_)
  refine lv_aload_n F.1 F.2.1 dL_does_487 rfl (lv_at hl 6 rfl) ?_
  refine lv_bipush (v := 9) F.1 F.2.1 dL_does_488 (by decide) ?_
  refine w_calli F hP hS (k_count l D Y ad N hI hN _ hL 9 (by decide) hJ.1) (cwVm 1 F.2.2.2.2.1 (fun _ h => h) mw_482 mw_716 mw_480 mw_481 mw_2 rfl rfl ydX7_count ⟨by decide, by decide⟩) (by omega) (ls_at hL) rfl rfl hl.1 rfl (Nat.le_of_ble_eq_true rfl) dL_does_490 ⟨Nat.zero_le _, Nat.zero_le _⟩ (fun r2 C2 H locs hq hP hS => ?_)
  obtain ⟨hw2, hr2⟩ := hq; rw [hw2] at hP
  have hr2 := hr2.trans cn_9
  subst hr2
  refine lv_istore (lv' := [(15, .int (f 19)), (14, .int (f 8 + 500)), (5, .int (1)), (4, .int (nI n)), (3, .int (w)), (2, .int (v)), (1, .ref (ad 170)), (0, .ref (ad 0))]) F.1 F.2.1 dL_does_493 hl (by decide) rfl (fun ls hl => ?_)
  refine lv_iload_n F.1 F.2.1 dL_does_495 rfl (lv_at hl 4 rfl) ?_
  refine lv_iconst (v := 1) F.1 F.2.1 dL_does_496 (by decide) ?_
  refine lv_iand F.1 F.2.1 dL_does_497 ?_
  refine lv_if_ne (tgt := 510) F.1 F.2.1 dL_does_498 (by decide) (fun c1 => ?_) (fun c1 => ?_)
  · refine lv_aload_n F.1 F.2.1 dL_does_510 rfl (lv_at hl 7 rfl) ?_
    refine lv_bipush (v := 13) F.1 F.2.1 dL_does_511 (by decide) ?_
    refine w_calli F hP hS (k_count l D Y ad N hI hN _ hL 13 (by decide) hJ.1) (cwVm 1 F.2.2.2.2.1 (fun _ h => h) mw_482 mw_716 mw_480 mw_481 mw_2 rfl rfl ydX7_count ⟨by decide, by decide⟩) (by omega) (ls_at hL) rfl rfl hl.1 rfl (Nat.le_of_ble_eq_true rfl) dL_does_513 ⟨Nat.zero_le _, Nat.zero_le _⟩ (fun r3 C2 H locs hq hP hS => ?_)
    obtain ⟨hw3, hr3⟩ := hq; rw [hw3] at hP
    have hr3 := hr3.trans cn_13
    subst hr3
    refine lv_ineg F.1 F.2.1 dL_does_516 ?_
    refine lv_istore (lv' := [(16, .int (-(f 3))), (15, .int (f 19)), (14, .int (f 8 + 500)), (5, .int (1)), (4, .int (nI n)), (3, .int (w)), (2, .int (v)), (1, .ref (ad 170)), (0, .ref (ad 0))]) F.1 F.2.1 dL_does_517 hl (by decide) rfl (fun ls hl => ?_)
    refine lv_aload_n F.1 F.2.1 dL_does_519 rfl (lv_at hl 8 rfl) ?_
    refine lv_iload_n F.1 F.2.1 dL_does_520 rfl (lv_at hl 5 rfl) ?_
    refine lv_iconst (v := 1) F.1 F.2.1 dL_does_521 (by decide) ?_
    refine lv_iand F.1 F.2.1 dL_does_522 ?_
    refine w_calli F hP hS (k_tap l D Y ad N hI hN _ hL (w &&& 1) (and1_in w) h5 h11 hJ.1 (by omega)) (cwVm 1 F.2.2.2.2.1 (fun _ h => h) mw_396 mw_721 mw_394 mw_395 mw_2 rfl rfl ydX7_tap ⟨by decide, by decide⟩) (by omega) (ls_at hL) rfl rfl hl.1 rfl (Nat.le_of_ble_eq_true rfl) dL_does_523 ⟨Nat.zero_le _, Nat.zero_le _⟩ (fun r4 C4 H locs hq hP hS => ?_)
    obtain ⟨hr4, hL4, hz4⟩ := hq
    have hH4 := hz4.trans hH
    have hr4 := hr4.trans (tap_8b c1)
    subst hr4
    have hJ1 : J (B + 100) (T_tapp (w &&& 1) f) := J_mono (by omega) (J_tap _ (by omega) hJ)
    refine lv_iload F.1 F.2.1 dL_does_526 (lv_at hl 3 rfl) ?_
    refine lv_if_eq (tgt := 539) F.1 F.2.1 dL_does_528 (by decide) (fun c2 => False.elim (by revert c2; decide)) (fun c2 => ?_)
    refine lv_iload F.1 F.2.1 dL_does_531 (lv_at hl 2 rfl) ?_
    refine lv_iload F.1 F.2.1 dL_does_533 (lv_at hl 0 rfl) ?_
    refine lv_iadd F.1 F.2.1 dL_does_535 ?_
    refine lv_goto (tgt := 541) F.1 F.2.1 dL_does_536 (by decide) ?_
    refine lv_icmp_ne (tgt := 571) F.1 F.2.1 dL_does_541 (by decide) (fun c3 => False.elim (c3 rfl)) (fun c3 => ?_)
    refine lv_aload_n F.1 F.2.1 dL_does_544 rfl (lv_at hl 8 rfl) ?_
    refine lv_bipush (v := 9) F.1 F.2.1 dL_does_545 (by decide) ?_
    refine w_calli F hP hS (k_count l D Y ad N hI hN _ hL4 9 (by decide) hJ1.1) (cwVm 1 F.2.2.2.2.1 (fun _ h => h) mw_482 mw_716 mw_480 mw_481 mw_2 rfl rfl ydX7_count ⟨by decide, by decide⟩) (by omega) (ls_at hL4) rfl rfl hl.1 rfl (Nat.le_of_ble_eq_true rfl) dL_does_547 ⟨Nat.zero_le _, Nat.zero_le _⟩ (fun r5 C2 H locs hq hP hS => ?_)
    obtain ⟨hw5, hr5⟩ := hq; rw [hw5] at hP
    have hr5 := hr5.trans (cn_9.trans (show T_tapp (w &&& 1) f 19 = f 19 + 1 from upd_s))
    subst hr5
    refine lv_iload F.1 F.2.1 dL_does_550 (lv_at hl 3 rfl) ?_
    refine lv_if_eq (tgt := 562) F.1 F.2.1 dL_does_552 (by decide) (fun c4 => False.elim (by revert c4; decide)) (fun c4 => ?_)
    refine lv_iload F.1 F.2.1 dL_does_555 (lv_at hl 1 rfl) ?_
    refine lv_iconst (v := 1) F.1 F.2.1 dL_does_557 (by decide) ?_
    refine lv_iadd F.1 F.2.1 dL_does_558 ?_
    refine lv_goto (tgt := 564) F.1 F.2.1 dL_does_559 (by decide) ?_
    refine lv_icmp_ne (tgt := 571) F.1 F.2.1 dL_does_564 (by decide) (fun c5 => False.elim (c5 rfl)) (fun c5 => ?_)
    refine lv_iconst (v := 1) F.1 F.2.1 dL_does_567 (by decide) ?_
    refine lv_goto (tgt := 572) F.1 F.2.1 dL_does_568 (by decide) ?_
    exact w_zret F hr hlocks hP hS (Or.inr rfl) dL_does_572 ⟨rfl, _, _, _, ⟨hL4, _, hH4⟩, hJ1⟩
  · refine lv_aload_n F.1 F.2.1 dL_does_501 rfl (lv_at hl 7 rfl) ?_
    refine lv_bipush (v := 13) F.1 F.2.1 dL_does_502 (by decide) ?_
    refine w_calli F hP hS (k_count l D Y ad N hI hN _ hL 13 (by decide) hJ.1) (cwVm 1 F.2.2.2.2.1 (fun _ h => h) mw_482 mw_716 mw_480 mw_481 mw_2 rfl rfl ydX7_count ⟨by decide, by decide⟩) (by omega) (ls_at hL) rfl rfl hl.1 rfl (Nat.le_of_ble_eq_true rfl) dL_does_504 ⟨Nat.zero_le _, Nat.zero_le _⟩ (fun r3 C2 H locs hq hP hS => ?_)
    obtain ⟨hw3, hr3⟩ := hq; rw [hw3] at hP
    have hr3 := hr3.trans cn_13
    subst hr3
    refine lv_goto (tgt := 517) F.1 F.2.1 dL_does_507 (by decide) ?_
    refine lv_istore (lv' := [(16, .int (f 3)), (15, .int (f 19)), (14, .int (f 8 + 500)), (5, .int (1)), (4, .int (nI n)), (3, .int (w)), (2, .int (v)), (1, .ref (ad 170)), (0, .ref (ad 0))]) F.1 F.2.1 dL_does_517 hl (by decide) rfl (fun ls hl => ?_)
    refine lv_aload_n F.1 F.2.1 dL_does_519 rfl (lv_at hl 8 rfl) ?_
    refine lv_iload_n F.1 F.2.1 dL_does_520 rfl (lv_at hl 5 rfl) ?_
    refine lv_iconst (v := 1) F.1 F.2.1 dL_does_521 (by decide) ?_
    refine lv_iand F.1 F.2.1 dL_does_522 ?_
    refine w_calli F hP hS (k_tap l D Y ad N hI hN _ hL (w &&& 1) (and1_in w) h5 h11 hJ.1 (by omega)) (cwVm 1 F.2.2.2.2.1 (fun _ h => h) mw_396 mw_721 mw_394 mw_395 mw_2 rfl rfl ydX7_tap ⟨by decide, by decide⟩) (by omega) (ls_at hL) rfl rfl hl.1 rfl (Nat.le_of_ble_eq_true rfl) dL_does_523 ⟨Nat.zero_le _, Nat.zero_le _⟩ (fun r4 C4 H locs hq hP hS => ?_)
    obtain ⟨hr4, hL4, hz4⟩ := hq
    have hH4 := hz4.trans hH
    have hr4 := hr4.trans (tap_8a c1)
    subst hr4
    have hJ1 : J (B + 100) (T_tapp (w &&& 1) f) := J_mono (by omega) (J_tap _ (by omega) hJ)
    refine lv_iload F.1 F.2.1 dL_does_526 (lv_at hl 3 rfl) ?_
    refine lv_if_eq (tgt := 539) F.1 F.2.1 dL_does_528 (by decide) (fun c6 => False.elim (by revert c6; decide)) (fun c6 => ?_)
    refine lv_iload F.1 F.2.1 dL_does_531 (lv_at hl 2 rfl) ?_
    refine lv_iload F.1 F.2.1 dL_does_533 (lv_at hl 0 rfl) ?_
    refine lv_iadd F.1 F.2.1 dL_does_535 ?_
    refine lv_goto (tgt := 541) F.1 F.2.1 dL_does_536 (by decide) ?_
    refine lv_icmp_ne (tgt := 571) F.1 F.2.1 dL_does_541 (by decide) (fun c7 => False.elim (c7 rfl)) (fun c7 => ?_)
    refine lv_aload_n F.1 F.2.1 dL_does_544 rfl (lv_at hl 8 rfl) ?_
    refine lv_bipush (v := 9) F.1 F.2.1 dL_does_545 (by decide) ?_
    refine w_calli F hP hS (k_count l D Y ad N hI hN _ hL4 9 (by decide) hJ1.1) (cwVm 1 F.2.2.2.2.1 (fun _ h => h) mw_482 mw_716 mw_480 mw_481 mw_2 rfl rfl ydX7_count ⟨by decide, by decide⟩) (by omega) (ls_at hL4) rfl rfl hl.1 rfl (Nat.le_of_ble_eq_true rfl) dL_does_547 ⟨Nat.zero_le _, Nat.zero_le _⟩ (fun r5 C2 H locs hq hP hS => ?_)
    obtain ⟨hw5, hr5⟩ := hq; rw [hw5] at hP
    have hr5 := hr5.trans (cn_9.trans (show T_tapp (w &&& 1) f 19 = f 19 + 1 from upd_s))
    subst hr5
    refine lv_iload F.1 F.2.1 dL_does_550 (lv_at hl 3 rfl) ?_
    refine lv_if_eq (tgt := 562) F.1 F.2.1 dL_does_552 (by decide) (fun c8 => False.elim (by revert c8; decide)) (fun c8 => ?_)
    refine lv_iload F.1 F.2.1 dL_does_555 (lv_at hl 1 rfl) ?_
    refine lv_iconst (v := 1) F.1 F.2.1 dL_does_557 (by decide) ?_
    refine lv_iadd F.1 F.2.1 dL_does_558 ?_
    refine lv_goto (tgt := 564) F.1 F.2.1 dL_does_559 (by decide) ?_
    refine lv_icmp_ne (tgt := 571) F.1 F.2.1 dL_does_564 (by decide) (fun c9 => False.elim (c9 rfl)) (fun c9 => ?_)
    refine lv_iconst (v := 1) F.1 F.2.1 dL_does_567 (by decide) ?_
    refine lv_goto (tgt := 572) F.1 F.2.1 dL_does_568 (by decide) ?_
    exact w_zret F hr hlocks hP hS (Or.inr rfl) dL_does_572 ⟨rfl, _, _, _, ⟨hL4, _, hH4⟩, hJ1⟩
set_option maxRecDepth 20000 in
set_option maxHeartbeats 4000000 in
theorem does_480_n {p : Program} {l : Launch} {e : Env} {s : State} {m : MethodId} {below : List Frame} {meth : Method} {c : Code} {args : Array Value} {D : va_G} {Y : Nat → ClassId} {ad : Nat → Nat} {N : Nat} (hI : wI ad N) (hN : 171 ≤ N) (F : wFix p s m c args cL_does RL 20 D Y ad N) (hr : meth.sig.returnType = some .boolean) (hlocks : meth.locks = false) {C : Nat → va_E} {f : Nat → Int32} {sl : Nat → Nat → Int32} {sv : Nat → Int32} {hv : Nat → Int32} {B : Int} {H : Heap} {locs : List Loc} (hP : wP D ad N C H) (hS : va_S (wA ad N) s.heap H locs) (hL : kLS Y ad C f sl sv) (hH : C 170 = .inl (Y 0, 8, .inl hv)) (hJ : J B f) (hB0 : 0 ≤ B) (hB : B + 7000 ≤ 900000000) {n : Nat} (h4 : f 4 = nI n) (hn : n ≤ 20) {v w : Int32} (hno : ¬ (f 5 = 1 ∧ f 11 = 0)) {ls : Array Slot} (hl : lv_has ls 20 [(5, .int 0), (4, .int (nI n)), (3, .int w), (2, .int v), (1, .ref (ad 170)), (0, .ref (ad 0))]) : W p l e { frames := 9, cells := 0, slots := 0, locals := 213 } s m args below meth c H locs 0 0 (MQ below (wQi D ad N (fun r C' => r = 1 ∧ ∃ (f' : Nat → Int32) (sl' : Nat → Nat → Int32) (sv' : Nat → Int32), kLT Y ad C' f' sl' sv' ∧ J (B + 100) f')) args s 0 0 (wA ad N)) (F0 m 480 ls []) := by
  refine lv_aload_n F.1 F.2.1 dL_does_480 rfl (lv_at hl 5 rfl) ?_
  refine lv_iconst (v := 2) F.1 F.2.1 dL_does_481 (by decide) ?_
  refine w_calli F hP hS (k_ofHoop l D Y ad N hI hN _ hL 2) (cwVm 1 F.2.2.2.2.1 (fun _ h => h) mw_454 mw_719 mw_452 mw_453 mw_2 rfl rfl ydX7_ofHoop ⟨by decide, by decide⟩) (by omega) (ls_at hL) rfl rfl hl.1 rfl (Nat.le_of_ble_eq_true rfl) dL_does_482 ⟨Nat.zero_le _, Nat.zero_le _⟩ (fun r1 C2 H locs hq hP hS => ?_)
  obtain ⟨hw1, hr1⟩ := hq; rw [hw1] at hP
  subst hr1
  refine lv_istore (lv' := [(14, .int (T_ofHoop f 2)), (5, .int (0)), (4, .int (nI n)), (3, .int (w)), (2, .int (v)), (1, .ref (ad 170)), (0, .ref (ad 0))]) F.1 F.2.1 dL_does_485 hl (by decide) rfl (fun ls hl => ?_)
  refine lv_aload_n F.1 F.2.1 dL_does_487 rfl (lv_at hl 6 rfl) ?_
  refine lv_bipush (v := 9) F.1 F.2.1 dL_does_488 (by decide) ?_
  refine w_calli F hP hS (k_count l D Y ad N hI hN _ hL 9 (by decide) hJ.1) (cwVm 1 F.2.2.2.2.1 (fun _ h => h) mw_482 mw_716 mw_480 mw_481 mw_2 rfl rfl ydX7_count ⟨by decide, by decide⟩) (by omega) (ls_at hL) rfl rfl hl.1 rfl (Nat.le_of_ble_eq_true rfl) dL_does_490 ⟨Nat.zero_le _, Nat.zero_le _⟩ (fun r2 C2 H locs hq hP hS => ?_)
  obtain ⟨hw2, hr2⟩ := hq; rw [hw2] at hP
  have hr2 := hr2.trans cn_9
  subst hr2
  refine lv_istore (lv' := [(15, .int (f 19)), (14, .int (T_ofHoop f 2)), (5, .int (0)), (4, .int (nI n)), (3, .int (w)), (2, .int (v)), (1, .ref (ad 170)), (0, .ref (ad 0))]) F.1 F.2.1 dL_does_493 hl (by decide) rfl (fun ls hl => ?_)
  refine lv_iload_n F.1 F.2.1 dL_does_495 rfl (lv_at hl 4 rfl) ?_
  refine lv_iconst (v := 1) F.1 F.2.1 dL_does_496 (by decide) ?_
  refine lv_iand F.1 F.2.1 dL_does_497 ?_
  refine lv_if_ne (tgt := 510) F.1 F.2.1 dL_does_498 (by decide) (fun c1 => ?_) (fun c1 => ?_)
  · refine lv_aload_n F.1 F.2.1 dL_does_510 rfl (lv_at hl 7 rfl) ?_
    refine lv_bipush (v := 13) F.1 F.2.1 dL_does_511 (by decide) ?_
    refine w_calli F hP hS (k_count l D Y ad N hI hN _ hL 13 (by decide) hJ.1) (cwVm 1 F.2.2.2.2.1 (fun _ h => h) mw_482 mw_716 mw_480 mw_481 mw_2 rfl rfl ydX7_count ⟨by decide, by decide⟩) (by omega) (ls_at hL) rfl rfl hl.1 rfl (Nat.le_of_ble_eq_true rfl) dL_does_513 ⟨Nat.zero_le _, Nat.zero_le _⟩ (fun r3 C2 H locs hq hP hS => ?_)
    obtain ⟨hw3, hr3⟩ := hq; rw [hw3] at hP
    have hr3 := hr3.trans cn_13
    subst hr3
    refine lv_ineg F.1 F.2.1 dL_does_516 ?_
    refine lv_istore (lv' := [(16, .int (-(f 3))), (15, .int (f 19)), (14, .int (T_ofHoop f 2)), (5, .int (0)), (4, .int (nI n)), (3, .int (w)), (2, .int (v)), (1, .ref (ad 170)), (0, .ref (ad 0))]) F.1 F.2.1 dL_does_517 hl (by decide) rfl (fun ls hl => ?_)
    refine lv_aload_n F.1 F.2.1 dL_does_519 rfl (lv_at hl 8 rfl) ?_
    refine lv_iload_n F.1 F.2.1 dL_does_520 rfl (lv_at hl 5 rfl) ?_
    refine lv_iconst (v := 1) F.1 F.2.1 dL_does_521 (by decide) ?_
    refine lv_iand F.1 F.2.1 dL_does_522 ?_
    refine w_calli F hP hS (k_tap_n l D Y ad N hI hN _ hL (w &&& 1) (and1_in w) hno hJ.1 (by omega)) (cwVm 1 F.2.2.2.2.1 (fun _ h => h) mw_396 mw_721 mw_394 mw_395 mw_2 rfl rfl ydX7_tap ⟨by decide, by decide⟩) (by omega) (ls_at hL) rfl rfl hl.1 rfl (Nat.le_of_ble_eq_true rfl) dL_does_523 ⟨Nat.zero_le _, Nat.zero_le _⟩ (fun r4 C2 H locs hq hP hS => ?_)
    obtain ⟨hw4, hr4⟩ := hq; rw [hw4] at hP
    subst hr4
    refine lv_iload F.1 F.2.1 dL_does_526 (lv_at hl 3 rfl) ?_
    refine lv_if_eq (tgt := 539) F.1 F.2.1 dL_does_528 (by decide) (fun c2 => ?_) (fun c2 => False.elim (by revert c2; decide))
    refine lv_bipush (v := (-5)) F.1 F.2.1 dL_does_539 (by decide) ?_
    refine lv_icmp_ne (tgt := 571) F.1 F.2.1 dL_does_541 (by decide) (fun c3 => False.elim (c3 rfl)) (fun c3 => ?_)
    refine lv_aload_n F.1 F.2.1 dL_does_544 rfl (lv_at hl 8 rfl) ?_
    refine lv_bipush (v := 9) F.1 F.2.1 dL_does_545 (by decide) ?_
    refine w_calli F hP hS (k_count l D Y ad N hI hN _ hL 9 (by decide) hJ.1) (cwVm 1 F.2.2.2.2.1 (fun _ h => h) mw_482 mw_716 mw_480 mw_481 mw_2 rfl rfl ydX7_count ⟨by decide, by decide⟩) (by omega) (ls_at hL) rfl rfl hl.1 rfl (Nat.le_of_ble_eq_true rfl) dL_does_547 ⟨Nat.zero_le _, Nat.zero_le _⟩ (fun r5 C2 H locs hq hP hS => ?_)
    obtain ⟨hw5, hr5⟩ := hq; rw [hw5] at hP
    have hr5 := hr5.trans cn_9
    subst hr5
    refine lv_iload F.1 F.2.1 dL_does_550 (lv_at hl 3 rfl) ?_
    refine lv_if_eq (tgt := 562) F.1 F.2.1 dL_does_552 (by decide) (fun c4 => ?_) (fun c4 => False.elim (by revert c4; decide))
    refine lv_iload F.1 F.2.1 dL_does_562 (lv_at hl 1 rfl) ?_
    refine lv_icmp_ne (tgt := 571) F.1 F.2.1 dL_does_564 (by decide) (fun c5 => False.elim (c5 rfl)) (fun c5 => ?_)
    refine lv_iconst (v := 1) F.1 F.2.1 dL_does_567 (by decide) ?_
    refine lv_goto (tgt := 572) F.1 F.2.1 dL_does_568 (by decide) ?_
    exact w_zret F hr hlocks hP hS (Or.inr rfl) dL_does_572 ⟨rfl, _, _, _, ⟨hL, _, hH⟩, (J_mono (by omega) hJ)⟩
  · refine lv_aload_n F.1 F.2.1 dL_does_501 rfl (lv_at hl 7 rfl) ?_
    refine lv_bipush (v := 13) F.1 F.2.1 dL_does_502 (by decide) ?_
    refine w_calli F hP hS (k_count l D Y ad N hI hN _ hL 13 (by decide) hJ.1) (cwVm 1 F.2.2.2.2.1 (fun _ h => h) mw_482 mw_716 mw_480 mw_481 mw_2 rfl rfl ydX7_count ⟨by decide, by decide⟩) (by omega) (ls_at hL) rfl rfl hl.1 rfl (Nat.le_of_ble_eq_true rfl) dL_does_504 ⟨Nat.zero_le _, Nat.zero_le _⟩ (fun r3 C2 H locs hq hP hS => ?_)
    obtain ⟨hw3, hr3⟩ := hq; rw [hw3] at hP
    have hr3 := hr3.trans cn_13
    subst hr3
    refine lv_goto (tgt := 517) F.1 F.2.1 dL_does_507 (by decide) ?_
    refine lv_istore (lv' := [(16, .int (f 3)), (15, .int (f 19)), (14, .int (T_ofHoop f 2)), (5, .int (0)), (4, .int (nI n)), (3, .int (w)), (2, .int (v)), (1, .ref (ad 170)), (0, .ref (ad 0))]) F.1 F.2.1 dL_does_517 hl (by decide) rfl (fun ls hl => ?_)
    refine lv_aload_n F.1 F.2.1 dL_does_519 rfl (lv_at hl 8 rfl) ?_
    refine lv_iload_n F.1 F.2.1 dL_does_520 rfl (lv_at hl 5 rfl) ?_
    refine lv_iconst (v := 1) F.1 F.2.1 dL_does_521 (by decide) ?_
    refine lv_iand F.1 F.2.1 dL_does_522 ?_
    refine w_calli F hP hS (k_tap_n l D Y ad N hI hN _ hL (w &&& 1) (and1_in w) hno hJ.1 (by omega)) (cwVm 1 F.2.2.2.2.1 (fun _ h => h) mw_396 mw_721 mw_394 mw_395 mw_2 rfl rfl ydX7_tap ⟨by decide, by decide⟩) (by omega) (ls_at hL) rfl rfl hl.1 rfl (Nat.le_of_ble_eq_true rfl) dL_does_523 ⟨Nat.zero_le _, Nat.zero_le _⟩ (fun r4 C2 H locs hq hP hS => ?_)
    obtain ⟨hw4, hr4⟩ := hq; rw [hw4] at hP
    subst hr4
    refine lv_iload F.1 F.2.1 dL_does_526 (lv_at hl 3 rfl) ?_
    refine lv_if_eq (tgt := 539) F.1 F.2.1 dL_does_528 (by decide) (fun c6 => ?_) (fun c6 => False.elim (by revert c6; decide))
    refine lv_bipush (v := (-5)) F.1 F.2.1 dL_does_539 (by decide) ?_
    refine lv_icmp_ne (tgt := 571) F.1 F.2.1 dL_does_541 (by decide) (fun c7 => False.elim (c7 rfl)) (fun c7 => ?_)
    refine lv_aload_n F.1 F.2.1 dL_does_544 rfl (lv_at hl 8 rfl) ?_
    refine lv_bipush (v := 9) F.1 F.2.1 dL_does_545 (by decide) ?_
    refine w_calli F hP hS (k_count l D Y ad N hI hN _ hL 9 (by decide) hJ.1) (cwVm 1 F.2.2.2.2.1 (fun _ h => h) mw_482 mw_716 mw_480 mw_481 mw_2 rfl rfl ydX7_count ⟨by decide, by decide⟩) (by omega) (ls_at hL) rfl rfl hl.1 rfl (Nat.le_of_ble_eq_true rfl) dL_does_547 ⟨Nat.zero_le _, Nat.zero_le _⟩ (fun r5 C2 H locs hq hP hS => ?_)
    obtain ⟨hw5, hr5⟩ := hq; rw [hw5] at hP
    have hr5 := hr5.trans cn_9
    subst hr5
    refine lv_iload F.1 F.2.1 dL_does_550 (lv_at hl 3 rfl) ?_
    refine lv_if_eq (tgt := 562) F.1 F.2.1 dL_does_552 (by decide) (fun c8 => ?_) (fun c8 => False.elim (by revert c8; decide))
    refine lv_iload F.1 F.2.1 dL_does_562 (lv_at hl 1 rfl) ?_
    refine lv_icmp_ne (tgt := 571) F.1 F.2.1 dL_does_564 (by decide) (fun c9 => False.elim (c9 rfl)) (fun c9 => ?_)
    refine lv_iconst (v := 1) F.1 F.2.1 dL_does_567 (by decide) ?_
    refine lv_goto (tgt := 572) F.1 F.2.1 dL_does_568 (by decide) ?_
    exact w_zret F hr hlocks hP hS (Or.inr rfl) dL_does_572 ⟨rfl, _, _, _, ⟨hL, _, hH⟩, (J_mono (by omega) hJ)⟩
set_option maxRecDepth 20000 in
set_option maxHeartbeats 4000000 in
theorem does_573 {p : Program} {l : Launch} {e : Env} {s : State} {m : MethodId} {below : List Frame} {meth : Method} {c : Code} {args : Array Value} {D : va_G} {Y : Nat → ClassId} {ad : Nat → Nat} {N : Nat} (hI : wI ad N) (hN : 171 ≤ N) (F : wFix p s m c args cL_does RL 20 D Y ad N) (hr : meth.sig.returnType = some .boolean) (hlocks : meth.locks = false) {C : Nat → va_E} {f : Nat → Int32} {sl : Nat → Nat → Int32} {sv : Nat → Int32} {hv : Nat → Int32} {B : Int} {H : Heap} {locs : List Loc} (hP : wP D ad N C H) (hS : va_S (wA ad N) s.heap H locs) (hL : kLS Y ad C f sl sv) (hH : C 170 = .inl (Y 0, 8, .inl hv)) (hJ : J B f) (hB0 : 0 ≤ B) (hB : B + 7000 ≤ 900000000) {n : Nat} (h4 : f 4 = nI n) (hn : n ≤ 20) {v w : Int32} {rr : Int32} {ls : Array Slot} (hl : lv_has ls 20 [(5, .int rr), (4, .int (nI n)), (3, .int w), (2, .int v), (1, .ref (ad 170)), (0, .ref (ad 0))]) : W p l e { frames := 9, cells := 0, slots := 0, locals := 213 } s m args below meth c H locs 0 0 (MQ below (wQi D ad N (fun r C' => r = 1 ∧ ∃ (f' : Nat → Int32) (sl' : Nat → Nat → Int32) (sv' : Nat → Int32), kLT Y ad C' f' sl' sv' ∧ J (B + 100) f')) args s 0 0 (wA ad N)) (F0 m 573 ls []) := by
  refine lv_iload_n F.1 F.2.1 dL_does_573 rfl (lv_at hl 3 rfl) ?_
  refine lv_iconst (v := 5) F.1 F.2.1 dL_does_574 (by decide) ?_
  refine lv_ishr F.1 F.2.1 dL_does_575 ?_
  refine lv_iconst (v := 4) F.1 F.2.1 dL_does_576 (by decide) ?_
  refine w_calls F hP hS (c_L_low l D Y ad N hI _ (v >>> (5 &&& 31)) 4 (by omega) (by omega)) (cwSm 2 F.2.2.2.2.1 (fun _ h => h) mw_731 mw_729 mw_730 mw_714 rfl rfl ydL_low ⟨by decide, by decide⟩) rfl hl.1 rfl (Nat.le_of_ble_eq_true rfl) dL_does_577 ⟨Nat.zero_le _, Nat.zero_le _⟩ (fun r1 C2 H locs hq hP hS => ?_)
  obtain ⟨hw1, j1, hj1, hr1⟩ := hq; rw [hw1] at hP; subst hr1
  have hj1c : j1 = 0 ∨ j1 = 1 ∨ j1 = 2 ∨ j1 = 3 := by omega
  rcases hj1c with e0 | e0 | e0 | e0
  · subst e0
    refine lv_topi (fun v1 ev1 => ?_)
    have ev1 : v1 = 0 := ev1.trans rfl
    subst ev1
    refine lv_istore (lv' := [(17, .int (0)), (5, .int (rr)), (4, .int (nI n)), (3, .int (w)), (2, .int (v)), (1, .ref (ad 170)), (0, .ref (ad 0))]) F.1 F.2.1 dL_does_580 hl (by decide) rfl (fun ls hl => ?_)
    refine lv_iload F.1 F.2.1 dL_does_582 (lv_at hl 0 rfl) ?_
    refine lv_if_ne (tgt := 599) F.1 F.2.1 dL_does_584 (by decide) (fun c2 => False.elim (by revert c2; decide)) (fun c2 => ?_)
    refine lv_bipush (v := 10) F.1 F.2.1 dL_does_587 (by decide) ?_
    refine lv_iload_n F.1 F.2.1 dL_does_589 rfl (lv_at hl 3 rfl) ?_
    refine lv_bipush (v := 90) F.1 F.2.1 dL_does_590 (by decide) ?_
    refine w_calls F hP hS (c_L_low l D Y ad N hI _ w 90 (by omega) (by omega)) (cwSm 2 F.2.2.2.2.1 (fun _ h => h) mw_731 mw_729 mw_730 mw_714 rfl rfl ydL_low ⟨by decide, by decide⟩) rfl hl.1 rfl (Nat.le_of_ble_eq_true rfl) dL_does_592 ⟨Nat.zero_le _, Nat.zero_le _⟩ (fun r2 C2 H locs hq hP hS => ?_)
    obtain ⟨hw2, j2, hj2, hr2⟩ := hq; rw [hw2] at hP; subst hr2
    refine lv_iadd F.1 F.2.1 dL_does_595 ?_
    refine lv_goto (tgt := 633) F.1 F.2.1 dL_does_596 (by decide) ?_
    refine lv_topi (fun v3 ev3 => ?_)
    have ev3 : v3 = nI (10 + j2) := ev3.trans (nI_add 10 j2)
    subst ev3
    refine lv_istore (lv' := [(18, .int (nI (10 + j2))), (17, .int (0)), (5, .int (rr)), (4, .int (nI n)), (3, .int (w)), (2, .int (v)), (1, .ref (ad 170)), (0, .ref (ad 0))]) F.1 F.2.1 dL_does_633 hl (by decide) rfl (fun ls hl => ?_)
    refine lv_aload_n F.1 F.2.1 dL_does_635 rfl (lv_at hl 7 rfl) ?_
    refine lv_bipush (v := 10) F.1 F.2.1 dL_does_636 (by decide) ?_
    refine lv_iload F.1 F.2.1 dL_does_638 (lv_at hl 1 rfl) ?_
    refine lv_iadd F.1 F.2.1 dL_does_640 ?_
    refine lv_topi (fun v4 ev4 => ?_)
    have ev4 : v4 = 10 := ev4.trans (by decide)
    subst ev4
    refine w_calli F hP hS (k_count l D Y ad N hI hN _ hL 10 (by decide) hJ.1) (cwVm 1 F.2.2.2.2.1 (fun _ h => h) mw_482 mw_716 mw_480 mw_481 mw_2 rfl rfl ydX7_count ⟨by decide, by decide⟩) (by omega) (ls_at hL) rfl rfl hl.1 rfl (Nat.le_of_ble_eq_true rfl) dL_does_641 ⟨Nat.zero_le _, Nat.zero_le _⟩ (fun r3 C2 H locs hq hP hS => ?_)
    obtain ⟨hw3, hr3⟩ := hq; rw [hw3] at hP
    have hr3 := hr3.trans cn_10
    subst hr3
    refine lv_istore (lv' := [(19, .int (f 0)), (18, .int (nI (10 + j2))), (17, .int (0)), (5, .int (rr)), (4, .int (nI n)), (3, .int (w)), (2, .int (v)), (1, .ref (ad 170)), (0, .ref (ad 0))]) F.1 F.2.1 dL_does_644 hl (by decide) rfl (fun ls hl => ?_)
    refine lv_aload_n F.1 F.2.1 dL_does_646 rfl (lv_at hl 8 rfl) ?_
    refine lv_iload F.1 F.2.1 dL_does_647 (lv_at hl 2 rfl) ?_
    refine lv_iload F.1 F.2.1 dL_does_649 (lv_at hl 1 rfl) ?_
    have hcan : T_can (nI 0) (nI (10 + j2)) := (can_iff (by decide)).mpr ⟨show (10 : Int32) ≤ nI (10 + j2) from nI_le (a := 10) (by omega) (by omega), show nI (10 + j2) ≤ (99 : Int32) from nI_le (b := 99) (by omega) (by decide)⟩
    refine w_calli F hP hS (k_set l D Y ad N hI hN _ hL 0 (nI (10 + j2)) (by decide) hcan hJ.1 (by omega)) (cwVm 2 F.2.2.2.2.1 (fun _ h => h) mw_114 mw_737 mw_112 mw_113 mw_2 rfl rfl ydX7_set ⟨by decide, by decide⟩) (by omega) (ls_at hL) rfl rfl hl.1 rfl (Nat.le_of_ble_eq_true rfl) dL_does_651 ⟨Nat.zero_le _, Nat.zero_le _⟩ (fun r4 C4 H locs hq hP hS => ?_)
    obtain ⟨hr4, hL4, hz4⟩ := hq
    have hH4 := hz4.trans hH
    subst hr4
    have hJ1 : J (B + 100) (upd f 0 (nI (10 + j2))) := J_mono (by omega) (J_set hJ (by decide) hcan)
    refine lv_iload F.1 F.2.1 dL_does_654 (lv_at hl 0 rfl) ?_
    refine lv_icmp_ne (tgt := 677) F.1 F.2.1 dL_does_656 (by decide) (fun c5 => False.elim (c5 rfl)) (fun c5 => ?_)
    refine lv_aload_n F.1 F.2.1 dL_does_659 rfl (lv_at hl 8 rfl) ?_
    refine lv_bipush (v := 10) F.1 F.2.1 dL_does_660 (by decide) ?_
    refine lv_iload F.1 F.2.1 dL_does_662 (lv_at hl 2 rfl) ?_
    refine lv_iadd F.1 F.2.1 dL_does_664 ?_
    refine lv_topi (fun v6 ev6 => ?_)
    have ev6 : v6 = 10 := ev6.trans (by decide)
    subst ev6
    refine w_calli F hP hS (k_count l D Y ad N hI hN _ hL4 10 (by decide) hJ1.1) (cwVm 1 F.2.2.2.2.1 (fun _ h => h) mw_482 mw_716 mw_480 mw_481 mw_2 rfl rfl ydX7_count ⟨by decide, by decide⟩) (by omega) (ls_at hL4) rfl rfl hl.1 rfl (Nat.le_of_ble_eq_true rfl) dL_does_665 ⟨Nat.zero_le _, Nat.zero_le _⟩ (fun r5 C2 H locs hq hP hS => ?_)
    obtain ⟨hw5, hr5⟩ := hq; rw [hw5] at hP
    have hr5 := hr5.trans (cn_10.trans upd_s)
    subst hr5
    refine lv_iload F.1 F.2.1 dL_does_668 (lv_at hl 1 rfl) ?_
    refine lv_icmp_ne (tgt := 677) F.1 F.2.1 dL_does_670 (by decide) (fun c7 => False.elim (c7 rfl)) (fun c7 => ?_)
    refine lv_iconst (v := 1) F.1 F.2.1 dL_does_673 (by decide) ?_
    refine lv_goto (tgt := 678) F.1 F.2.1 dL_does_674 (by decide) ?_
    exact w_zret F hr hlocks hP hS (Or.inr rfl) dL_does_678 ⟨rfl, _, _, _, ⟨hL4, _, hH4⟩, hJ1⟩
  · subst e0
    refine lv_topi (fun v8 ev8 => ?_)
    have ev8 : v8 = 1 := ev8.trans rfl
    subst ev8
    refine lv_istore (lv' := [(17, .int (1)), (5, .int (rr)), (4, .int (nI n)), (3, .int (w)), (2, .int (v)), (1, .ref (ad 170)), (0, .ref (ad 0))]) F.1 F.2.1 dL_does_580 hl (by decide) rfl (fun ls hl => ?_)
    refine lv_iload F.1 F.2.1 dL_does_582 (lv_at hl 0 rfl) ?_
    refine lv_if_ne (tgt := 599) F.1 F.2.1 dL_does_584 (by decide) (fun c9 => ?_) (fun c9 => False.elim (by revert c9; decide))
    refine lv_iload F.1 F.2.1 dL_does_599 (lv_at hl 0 rfl) ?_
    refine lv_iconst (v := 3) F.1 F.2.1 dL_does_601 (by decide) ?_
    refine lv_icmp_ne (tgt := 616) F.1 F.2.1 dL_does_602 (by decide) (fun c10 => ?_) (fun c10 => False.elim (by revert c10; decide))
    refine lv_iload_n F.1 F.2.1 dL_does_616 rfl (lv_at hl 3 rfl) ?_
    refine lv_iload F.1 F.2.1 dL_does_617 (lv_at hl 0 rfl) ?_
    refine lv_iconst (v := 1) F.1 F.2.1 dL_does_619 (by decide) ?_
    refine lv_icmp_ne (tgt := 628) F.1 F.2.1 dL_does_620 (by decide) (fun c11 => False.elim (by revert c11; decide)) (fun c11 => ?_)
    refine lv_bipush (v := 10) F.1 F.2.1 dL_does_623 (by decide) ?_
    refine lv_goto (tgt := 630) F.1 F.2.1 dL_does_625 (by decide) ?_
    refine w_calls F hP hS (c_L_low l D Y ad N hI _ w 10 (by omega) (by omega)) (cwSm 2 F.2.2.2.2.1 (fun _ h => h) mw_731 mw_729 mw_730 mw_714 rfl rfl ydL_low ⟨by decide, by decide⟩) rfl hl.1 rfl (Nat.le_of_ble_eq_true rfl) dL_does_630 ⟨Nat.zero_le _, Nat.zero_le _⟩ (fun r2 C2 H locs hq hP hS => ?_)
    obtain ⟨hw2, j2, hj2, hr2⟩ := hq; rw [hw2] at hP; subst hr2
    refine lv_istore (lv' := [(18, .int (nI j2)), (17, .int (1)), (5, .int (rr)), (4, .int (nI n)), (3, .int (w)), (2, .int (v)), (1, .ref (ad 170)), (0, .ref (ad 0))]) F.1 F.2.1 dL_does_633 hl (by decide) rfl (fun ls hl => ?_)
    refine lv_aload_n F.1 F.2.1 dL_does_635 rfl (lv_at hl 7 rfl) ?_
    refine lv_bipush (v := 10) F.1 F.2.1 dL_does_636 (by decide) ?_
    refine lv_iload F.1 F.2.1 dL_does_638 (lv_at hl 1 rfl) ?_
    refine lv_iadd F.1 F.2.1 dL_does_640 ?_
    refine lv_topi (fun v12 ev12 => ?_)
    have ev12 : v12 = 11 := ev12.trans (by decide)
    subst ev12
    refine w_calli F hP hS (k_count l D Y ad N hI hN _ hL 11 (by decide) hJ.1) (cwVm 1 F.2.2.2.2.1 (fun _ h => h) mw_482 mw_716 mw_480 mw_481 mw_2 rfl rfl ydX7_count ⟨by decide, by decide⟩) (by omega) (ls_at hL) rfl rfl hl.1 rfl (Nat.le_of_ble_eq_true rfl) dL_does_641 ⟨Nat.zero_le _, Nat.zero_le _⟩ (fun r3 C2 H locs hq hP hS => ?_)
    obtain ⟨hw3, hr3⟩ := hq; rw [hw3] at hP
    have hr3 := hr3.trans cn_11
    subst hr3
    refine lv_istore (lv' := [(19, .int (f 1)), (18, .int (nI j2)), (17, .int (1)), (5, .int (rr)), (4, .int (nI n)), (3, .int (w)), (2, .int (v)), (1, .ref (ad 170)), (0, .ref (ad 0))]) F.1 F.2.1 dL_does_644 hl (by decide) rfl (fun ls hl => ?_)
    refine lv_aload_n F.1 F.2.1 dL_does_646 rfl (lv_at hl 8 rfl) ?_
    refine lv_iload F.1 F.2.1 dL_does_647 (lv_at hl 2 rfl) ?_
    refine lv_iload F.1 F.2.1 dL_does_649 (lv_at hl 1 rfl) ?_
    have hcan : T_can (nI 1) (nI j2) := (can_iff (by decide)).mpr ⟨show (0 : Int32) ≤ nI j2 from nI_le (a := 0) (by omega) (by omega), show nI j2 ≤ (20 : Int32) from nI_le (b := 20) (by omega) (by decide)⟩
    refine w_calli F hP hS (k_set l D Y ad N hI hN _ hL 1 (nI j2) (by decide) hcan hJ.1 (by omega)) (cwVm 2 F.2.2.2.2.1 (fun _ h => h) mw_114 mw_737 mw_112 mw_113 mw_2 rfl rfl ydX7_set ⟨by decide, by decide⟩) (by omega) (ls_at hL) rfl rfl hl.1 rfl (Nat.le_of_ble_eq_true rfl) dL_does_651 ⟨Nat.zero_le _, Nat.zero_le _⟩ (fun r4 C4 H locs hq hP hS => ?_)
    obtain ⟨hr4, hL4, hz4⟩ := hq
    have hH4 := hz4.trans hH
    subst hr4
    have hJ1 : J (B + 100) (upd f 1 (nI j2)) := J_mono (by omega) (J_set hJ (by decide) hcan)
    refine lv_iload F.1 F.2.1 dL_does_654 (lv_at hl 0 rfl) ?_
    refine lv_icmp_ne (tgt := 677) F.1 F.2.1 dL_does_656 (by decide) (fun c13 => False.elim (c13 rfl)) (fun c13 => ?_)
    refine lv_aload_n F.1 F.2.1 dL_does_659 rfl (lv_at hl 8 rfl) ?_
    refine lv_bipush (v := 10) F.1 F.2.1 dL_does_660 (by decide) ?_
    refine lv_iload F.1 F.2.1 dL_does_662 (lv_at hl 2 rfl) ?_
    refine lv_iadd F.1 F.2.1 dL_does_664 ?_
    refine lv_topi (fun v14 ev14 => ?_)
    have ev14 : v14 = 11 := ev14.trans (by decide)
    subst ev14
    refine w_calli F hP hS (k_count l D Y ad N hI hN _ hL4 11 (by decide) hJ1.1) (cwVm 1 F.2.2.2.2.1 (fun _ h => h) mw_482 mw_716 mw_480 mw_481 mw_2 rfl rfl ydX7_count ⟨by decide, by decide⟩) (by omega) (ls_at hL4) rfl rfl hl.1 rfl (Nat.le_of_ble_eq_true rfl) dL_does_665 ⟨Nat.zero_le _, Nat.zero_le _⟩ (fun r5 C2 H locs hq hP hS => ?_)
    obtain ⟨hw5, hr5⟩ := hq; rw [hw5] at hP
    have hr5 := hr5.trans (cn_11.trans upd_s)
    subst hr5
    refine lv_iload F.1 F.2.1 dL_does_668 (lv_at hl 1 rfl) ?_
    refine lv_icmp_ne (tgt := 677) F.1 F.2.1 dL_does_670 (by decide) (fun c15 => False.elim (c15 rfl)) (fun c15 => ?_)
    refine lv_iconst (v := 1) F.1 F.2.1 dL_does_673 (by decide) ?_
    refine lv_goto (tgt := 678) F.1 F.2.1 dL_does_674 (by decide) ?_
    exact w_zret F hr hlocks hP hS (Or.inr rfl) dL_does_678 ⟨rfl, _, _, _, ⟨hL4, _, hH4⟩, hJ1⟩
  · subst e0
    refine lv_topi (fun v16 ev16 => ?_)
    have ev16 : v16 = 2 := ev16.trans rfl
    subst ev16
    refine lv_istore (lv' := [(17, .int (2)), (5, .int (rr)), (4, .int (nI n)), (3, .int (w)), (2, .int (v)), (1, .ref (ad 170)), (0, .ref (ad 0))]) F.1 F.2.1 dL_does_580 hl (by decide) rfl (fun ls hl => ?_)
    refine lv_iload F.1 F.2.1 dL_does_582 (lv_at hl 0 rfl) ?_
    refine lv_if_ne (tgt := 599) F.1 F.2.1 dL_does_584 (by decide) (fun c17 => ?_) (fun c17 => False.elim (by revert c17; decide))
    refine lv_iload F.1 F.2.1 dL_does_599 (lv_at hl 0 rfl) ?_
    refine lv_iconst (v := 3) F.1 F.2.1 dL_does_601 (by decide) ?_
    refine lv_icmp_ne (tgt := 616) F.1 F.2.1 dL_does_602 (by decide) (fun c18 => ?_) (fun c18 => False.elim (by revert c18; decide))
    refine lv_iload_n F.1 F.2.1 dL_does_616 rfl (lv_at hl 3 rfl) ?_
    refine lv_iload F.1 F.2.1 dL_does_617 (lv_at hl 0 rfl) ?_
    refine lv_iconst (v := 1) F.1 F.2.1 dL_does_619 (by decide) ?_
    refine lv_icmp_ne (tgt := 628) F.1 F.2.1 dL_does_620 (by decide) (fun c19 => ?_) (fun c19 => False.elim (by revert c19; decide))
    refine lv_bipush (v := 6) F.1 F.2.1 dL_does_628 (by decide) ?_
    refine w_calls F hP hS (c_L_low l D Y ad N hI _ w 6 (by omega) (by omega)) (cwSm 2 F.2.2.2.2.1 (fun _ h => h) mw_731 mw_729 mw_730 mw_714 rfl rfl ydL_low ⟨by decide, by decide⟩) rfl hl.1 rfl (Nat.le_of_ble_eq_true rfl) dL_does_630 ⟨Nat.zero_le _, Nat.zero_le _⟩ (fun r2 C2 H locs hq hP hS => ?_)
    obtain ⟨hw2, j2, hj2, hr2⟩ := hq; rw [hw2] at hP; subst hr2
    refine lv_istore (lv' := [(18, .int (nI j2)), (17, .int (2)), (5, .int (rr)), (4, .int (nI n)), (3, .int (w)), (2, .int (v)), (1, .ref (ad 170)), (0, .ref (ad 0))]) F.1 F.2.1 dL_does_633 hl (by decide) rfl (fun ls hl => ?_)
    refine lv_aload_n F.1 F.2.1 dL_does_635 rfl (lv_at hl 7 rfl) ?_
    refine lv_bipush (v := 10) F.1 F.2.1 dL_does_636 (by decide) ?_
    refine lv_iload F.1 F.2.1 dL_does_638 (lv_at hl 1 rfl) ?_
    refine lv_iadd F.1 F.2.1 dL_does_640 ?_
    refine lv_topi (fun v20 ev20 => ?_)
    have ev20 : v20 = 12 := ev20.trans (by decide)
    subst ev20
    refine w_calli F hP hS (k_count l D Y ad N hI hN _ hL 12 (by decide) hJ.1) (cwVm 1 F.2.2.2.2.1 (fun _ h => h) mw_482 mw_716 mw_480 mw_481 mw_2 rfl rfl ydX7_count ⟨by decide, by decide⟩) (by omega) (ls_at hL) rfl rfl hl.1 rfl (Nat.le_of_ble_eq_true rfl) dL_does_641 ⟨Nat.zero_le _, Nat.zero_le _⟩ (fun r3 C2 H locs hq hP hS => ?_)
    obtain ⟨hw3, hr3⟩ := hq; rw [hw3] at hP
    have hr3 := hr3.trans cn_12
    subst hr3
    refine lv_istore (lv' := [(19, .int (f 2)), (18, .int (nI j2)), (17, .int (2)), (5, .int (rr)), (4, .int (nI n)), (3, .int (w)), (2, .int (v)), (1, .ref (ad 170)), (0, .ref (ad 0))]) F.1 F.2.1 dL_does_644 hl (by decide) rfl (fun ls hl => ?_)
    refine lv_aload_n F.1 F.2.1 dL_does_646 rfl (lv_at hl 8 rfl) ?_
    refine lv_iload F.1 F.2.1 dL_does_647 (lv_at hl 2 rfl) ?_
    refine lv_iload F.1 F.2.1 dL_does_649 (lv_at hl 1 rfl) ?_
    have hcan : T_can (nI 2) (nI j2) := (can_iff (by decide)).mpr ⟨show (0 : Int32) ≤ nI j2 from nI_le (a := 0) (by omega) (by omega), show nI j2 ≤ (20 : Int32) from nI_le (b := 20) (by omega) (by decide)⟩
    refine w_calli F hP hS (k_set l D Y ad N hI hN _ hL 2 (nI j2) (by decide) hcan hJ.1 (by omega)) (cwVm 2 F.2.2.2.2.1 (fun _ h => h) mw_114 mw_737 mw_112 mw_113 mw_2 rfl rfl ydX7_set ⟨by decide, by decide⟩) (by omega) (ls_at hL) rfl rfl hl.1 rfl (Nat.le_of_ble_eq_true rfl) dL_does_651 ⟨Nat.zero_le _, Nat.zero_le _⟩ (fun r4 C4 H locs hq hP hS => ?_)
    obtain ⟨hr4, hL4, hz4⟩ := hq
    have hH4 := hz4.trans hH
    subst hr4
    have hJ1 : J (B + 100) (upd f 2 (nI j2)) := J_mono (by omega) (J_set hJ (by decide) hcan)
    refine lv_iload F.1 F.2.1 dL_does_654 (lv_at hl 0 rfl) ?_
    refine lv_icmp_ne (tgt := 677) F.1 F.2.1 dL_does_656 (by decide) (fun c21 => False.elim (c21 rfl)) (fun c21 => ?_)
    refine lv_aload_n F.1 F.2.1 dL_does_659 rfl (lv_at hl 8 rfl) ?_
    refine lv_bipush (v := 10) F.1 F.2.1 dL_does_660 (by decide) ?_
    refine lv_iload F.1 F.2.1 dL_does_662 (lv_at hl 2 rfl) ?_
    refine lv_iadd F.1 F.2.1 dL_does_664 ?_
    refine lv_topi (fun v22 ev22 => ?_)
    have ev22 : v22 = 12 := ev22.trans (by decide)
    subst ev22
    refine w_calli F hP hS (k_count l D Y ad N hI hN _ hL4 12 (by decide) hJ1.1) (cwVm 1 F.2.2.2.2.1 (fun _ h => h) mw_482 mw_716 mw_480 mw_481 mw_2 rfl rfl ydX7_count ⟨by decide, by decide⟩) (by omega) (ls_at hL4) rfl rfl hl.1 rfl (Nat.le_of_ble_eq_true rfl) dL_does_665 ⟨Nat.zero_le _, Nat.zero_le _⟩ (fun r5 C2 H locs hq hP hS => ?_)
    obtain ⟨hw5, hr5⟩ := hq; rw [hw5] at hP
    have hr5 := hr5.trans (cn_12.trans upd_s)
    subst hr5
    refine lv_iload F.1 F.2.1 dL_does_668 (lv_at hl 1 rfl) ?_
    refine lv_icmp_ne (tgt := 677) F.1 F.2.1 dL_does_670 (by decide) (fun c23 => False.elim (c23 rfl)) (fun c23 => ?_)
    refine lv_iconst (v := 1) F.1 F.2.1 dL_does_673 (by decide) ?_
    refine lv_goto (tgt := 678) F.1 F.2.1 dL_does_674 (by decide) ?_
    exact w_zret F hr hlocks hP hS (Or.inr rfl) dL_does_678 ⟨rfl, _, _, _, ⟨hL4, _, hH4⟩, hJ1⟩
  · subst e0
    refine lv_topi (fun v24 ev24 => ?_)
    have ev24 : v24 = 3 := ev24.trans rfl
    subst ev24
    refine lv_istore (lv' := [(17, .int (3)), (5, .int (rr)), (4, .int (nI n)), (3, .int (w)), (2, .int (v)), (1, .ref (ad 170)), (0, .ref (ad 0))]) F.1 F.2.1 dL_does_580 hl (by decide) rfl (fun ls hl => ?_)
    refine lv_iload F.1 F.2.1 dL_does_582 (lv_at hl 0 rfl) ?_
    refine lv_if_ne (tgt := 599) F.1 F.2.1 dL_does_584 (by decide) (fun c25 => ?_) (fun c25 => False.elim (by revert c25; decide))
    refine lv_iload F.1 F.2.1 dL_does_599 (lv_at hl 0 rfl) ?_
    refine lv_iconst (v := 3) F.1 F.2.1 dL_does_601 (by decide) ?_
    refine lv_icmp_ne (tgt := 616) F.1 F.2.1 dL_does_602 (by decide) (fun c26 => False.elim (by revert c26; decide)) (fun c26 => ?_)
    refine lv_iconst (v := 1) F.1 F.2.1 dL_does_605 (by decide) ?_
    refine lv_iload_n F.1 F.2.1 dL_does_606 rfl (lv_at hl 3 rfl) ?_
    refine lv_bipush (v := 30) F.1 F.2.1 dL_does_607 (by decide) ?_
    refine w_calls F hP hS (c_L_low l D Y ad N hI _ w 30 (by omega) (by omega)) (cwSm 2 F.2.2.2.2.1 (fun _ h => h) mw_731 mw_729 mw_730 mw_714 rfl rfl ydL_low ⟨by decide, by decide⟩) rfl hl.1 rfl (Nat.le_of_ble_eq_true rfl) dL_does_609 ⟨Nat.zero_le _, Nat.zero_le _⟩ (fun r2 C2 H locs hq hP hS => ?_)
    obtain ⟨hw2, j2, hj2, hr2⟩ := hq; rw [hw2] at hP; subst hr2
    refine lv_iadd F.1 F.2.1 dL_does_612 ?_
    refine lv_goto (tgt := 633) F.1 F.2.1 dL_does_613 (by decide) ?_
    refine lv_topi (fun v27 ev27 => ?_)
    have ev27 : v27 = nI (1 + j2) := ev27.trans (nI_add 1 j2)
    subst ev27
    refine lv_istore (lv' := [(18, .int (nI (1 + j2))), (17, .int (3)), (5, .int (rr)), (4, .int (nI n)), (3, .int (w)), (2, .int (v)), (1, .ref (ad 170)), (0, .ref (ad 0))]) F.1 F.2.1 dL_does_633 hl (by decide) rfl (fun ls hl => ?_)
    refine lv_aload_n F.1 F.2.1 dL_does_635 rfl (lv_at hl 7 rfl) ?_
    refine lv_bipush (v := 10) F.1 F.2.1 dL_does_636 (by decide) ?_
    refine lv_iload F.1 F.2.1 dL_does_638 (lv_at hl 1 rfl) ?_
    refine lv_iadd F.1 F.2.1 dL_does_640 ?_
    refine lv_topi (fun v28 ev28 => ?_)
    have ev28 : v28 = 13 := ev28.trans (by decide)
    subst ev28
    refine w_calli F hP hS (k_count l D Y ad N hI hN _ hL 13 (by decide) hJ.1) (cwVm 1 F.2.2.2.2.1 (fun _ h => h) mw_482 mw_716 mw_480 mw_481 mw_2 rfl rfl ydX7_count ⟨by decide, by decide⟩) (by omega) (ls_at hL) rfl rfl hl.1 rfl (Nat.le_of_ble_eq_true rfl) dL_does_641 ⟨Nat.zero_le _, Nat.zero_le _⟩ (fun r3 C2 H locs hq hP hS => ?_)
    obtain ⟨hw3, hr3⟩ := hq; rw [hw3] at hP
    have hr3 := hr3.trans cn_13
    subst hr3
    refine lv_istore (lv' := [(19, .int (f 3)), (18, .int (nI (1 + j2))), (17, .int (3)), (5, .int (rr)), (4, .int (nI n)), (3, .int (w)), (2, .int (v)), (1, .ref (ad 170)), (0, .ref (ad 0))]) F.1 F.2.1 dL_does_644 hl (by decide) rfl (fun ls hl => ?_)
    refine lv_aload_n F.1 F.2.1 dL_does_646 rfl (lv_at hl 8 rfl) ?_
    refine lv_iload F.1 F.2.1 dL_does_647 (lv_at hl 2 rfl) ?_
    refine lv_iload F.1 F.2.1 dL_does_649 (lv_at hl 1 rfl) ?_
    have hcan : T_can (nI 3) (nI (1 + j2)) := (can_iff (by decide)).mpr ⟨show (1 : Int32) ≤ nI (1 + j2) from nI_le (a := 1) (by omega) (by omega), show nI (1 + j2) ≤ (30 : Int32) from nI_le (b := 30) (by omega) (by decide)⟩
    refine w_calli F hP hS (k_set l D Y ad N hI hN _ hL 3 (nI (1 + j2)) (by decide) hcan hJ.1 (by omega)) (cwVm 2 F.2.2.2.2.1 (fun _ h => h) mw_114 mw_737 mw_112 mw_113 mw_2 rfl rfl ydX7_set ⟨by decide, by decide⟩) (by omega) (ls_at hL) rfl rfl hl.1 rfl (Nat.le_of_ble_eq_true rfl) dL_does_651 ⟨Nat.zero_le _, Nat.zero_le _⟩ (fun r4 C4 H locs hq hP hS => ?_)
    obtain ⟨hr4, hL4, hz4⟩ := hq
    have hH4 := hz4.trans hH
    subst hr4
    have hJ1 : J (B + 100) (upd f 3 (nI (1 + j2))) := J_mono (by omega) (J_set hJ (by decide) hcan)
    refine lv_iload F.1 F.2.1 dL_does_654 (lv_at hl 0 rfl) ?_
    refine lv_icmp_ne (tgt := 677) F.1 F.2.1 dL_does_656 (by decide) (fun c29 => False.elim (c29 rfl)) (fun c29 => ?_)
    refine lv_aload_n F.1 F.2.1 dL_does_659 rfl (lv_at hl 8 rfl) ?_
    refine lv_bipush (v := 10) F.1 F.2.1 dL_does_660 (by decide) ?_
    refine lv_iload F.1 F.2.1 dL_does_662 (lv_at hl 2 rfl) ?_
    refine lv_iadd F.1 F.2.1 dL_does_664 ?_
    refine lv_topi (fun v30 ev30 => ?_)
    have ev30 : v30 = 13 := ev30.trans (by decide)
    subst ev30
    refine w_calli F hP hS (k_count l D Y ad N hI hN _ hL4 13 (by decide) hJ1.1) (cwVm 1 F.2.2.2.2.1 (fun _ h => h) mw_482 mw_716 mw_480 mw_481 mw_2 rfl rfl ydX7_count ⟨by decide, by decide⟩) (by omega) (ls_at hL4) rfl rfl hl.1 rfl (Nat.le_of_ble_eq_true rfl) dL_does_665 ⟨Nat.zero_le _, Nat.zero_le _⟩ (fun r5 C2 H locs hq hP hS => ?_)
    obtain ⟨hw5, hr5⟩ := hq; rw [hw5] at hP
    have hr5 := hr5.trans (cn_13.trans upd_s)
    subst hr5
    refine lv_iload F.1 F.2.1 dL_does_668 (lv_at hl 1 rfl) ?_
    refine lv_icmp_ne (tgt := 677) F.1 F.2.1 dL_does_670 (by decide) (fun c31 => False.elim (c31 rfl)) (fun c31 => ?_)
    refine lv_iconst (v := 1) F.1 F.2.1 dL_does_673 (by decide) ?_
    refine lv_goto (tgt := 678) F.1 F.2.1 dL_does_674 (by decide) ?_
    exact w_zret F hr hlocks hP hS (Or.inr rfl) dL_does_678 ⟨rfl, _, _, _, ⟨hL4, _, hH4⟩, hJ1⟩
set_option maxRecDepth 20000 in
set_option maxHeartbeats 4000000 in
theorem does_679_r {p : Program} {l : Launch} {e : Env} {s : State} {m : MethodId} {below : List Frame} {meth : Method} {c : Code} {args : Array Value} {D : va_G} {Y : Nat → ClassId} {ad : Nat → Nat} {N : Nat} (hI : wI ad N) (hN : 171 ≤ N) (F : wFix p s m c args cL_does RL 20 D Y ad N) (hr : meth.sig.returnType = some .boolean) (hlocks : meth.locks = false) {C : Nat → va_E} {f : Nat → Int32} {sl : Nat → Nat → Int32} {sv : Nat → Int32} {hv : Nat → Int32} {B : Int} {H : Heap} {locs : List Loc} (hP : wP D ad N C H) (hS : va_S (wA ad N) s.heap H locs) (hL : kLS Y ad C f sl sv) (hH : C 170 = .inl (Y 0, 8, .inl hv)) (hJ : J B f) (hB0 : 0 ≤ B) (hB : B + 7000 ≤ 900000000) {n : Nat} (h4 : f 4 = nI n) (hn : n ≤ 20) {v w : Int32} (h5 : f 5 = 1) (h11 : f 11 = 0) {ls : Array Slot} (hl : lv_has ls 20 [(5, .int 1), (4, .int (nI n)), (3, .int w), (2, .int v), (1, .ref (ad 170)), (0, .ref (ad 0))]) : W p l e { frames := 9, cells := 0, slots := 0, locals := 213 } s m args below meth c H locs 0 0 (MQ below (wQi D ad N (fun r C' => r = 1 ∧ ∃ (f' : Nat → Int32) (sl' : Nat → Nat → Int32) (sv' : Nat → Int32), kLT Y ad C' f' sl' sv' ∧ J (B + 100) f')) args s 0 0 (wA ad N)) (F0 m 679 ls []) := by
  refine lv_iload F.1 F.2.1 dL_does_679 (lv_at hl 0 rfl) ?_
  refine lv_if_eq (tgt := 694) F.1 F.2.1 dL_does_681 (by decide) (fun c1 => False.elim (by revert c1; decide)) (fun c1 => ?_)
  refine lv_aload_n F.1 F.2.1 dL_does_684 rfl (lv_at hl 5 rfl) ?_
  refine lv_iload_n F.1 F.2.1 dL_does_685 rfl (lv_at hl 2 rfl) ?_
  refine lv_iconst (v := 1) F.1 F.2.1 dL_does_686 (by decide) ?_
  refine lv_iand F.1 F.2.1 dL_does_687 ?_
  refine w_calls F hP hS (c_L_isSaved l D Y ad N hI _ hN hL hH hJ hB0 (by omega) h5 h11 (w &&& 1) (and1_in w)) (cwSm 2 F.2.2.2.2.1 (fun _ h => h) mw_740 mw_738 mw_739 mw_714 rfl rfl ydL_isSaved ⟨by decide, by decide⟩) rfl hl.1 rfl (Nat.le_of_ble_eq_true rfl) dL_does_688 ⟨Nat.zero_le _, Nat.zero_le _⟩ (fun r1 C1 H locs hq hP hS => ?_)
  obtain ⟨hr1, hL1, hvx1, hH1⟩ := hq; subst hr1
  refine lv_if_eq (tgt := 698) F.1 F.2.1 dL_does_691 (by decide) (fun c2 => False.elim (by revert c2; decide)) (fun c2 => ?_)
  refine lv_iconst (v := 1) F.1 F.2.1 dL_does_694 (by decide) ?_
  refine lv_goto (tgt := 699) F.1 F.2.1 dL_does_695 (by decide) ?_
  exact w_zret F hr hlocks hP hS (Or.inr rfl) dL_does_699 ⟨rfl, _, _, _, ⟨hL1, _, hH1⟩, (J_mono (by omega) hJ)⟩
set_option maxRecDepth 20000 in
set_option maxHeartbeats 4000000 in
theorem does_679_n {p : Program} {l : Launch} {e : Env} {s : State} {m : MethodId} {below : List Frame} {meth : Method} {c : Code} {args : Array Value} {D : va_G} {Y : Nat → ClassId} {ad : Nat → Nat} {N : Nat} (hI : wI ad N) (hN : 171 ≤ N) (F : wFix p s m c args cL_does RL 20 D Y ad N) (hr : meth.sig.returnType = some .boolean) (hlocks : meth.locks = false) {C : Nat → va_E} {f : Nat → Int32} {sl : Nat → Nat → Int32} {sv : Nat → Int32} {hv : Nat → Int32} {B : Int} {H : Heap} {locs : List Loc} (hP : wP D ad N C H) (hS : va_S (wA ad N) s.heap H locs) (hL : kLS Y ad C f sl sv) (hH : C 170 = .inl (Y 0, 8, .inl hv)) (hJ : J B f) (hB0 : 0 ≤ B) (hB : B + 7000 ≤ 900000000) {n : Nat} (h4 : f 4 = nI n) (hn : n ≤ 20) {v w : Int32} (hno : ¬ (f 5 = 1 ∧ f 11 = 0)) {ls : Array Slot} (hl : lv_has ls 20 [(5, .int 0), (4, .int (nI n)), (3, .int w), (2, .int v), (1, .ref (ad 170)), (0, .ref (ad 0))]) : W p l e { frames := 9, cells := 0, slots := 0, locals := 213 } s m args below meth c H locs 0 0 (MQ below (wQi D ad N (fun r C' => r = 1 ∧ ∃ (f' : Nat → Int32) (sl' : Nat → Nat → Int32) (sv' : Nat → Int32), kLT Y ad C' f' sl' sv' ∧ J (B + 100) f')) args s 0 0 (wA ad N)) (F0 m 679 ls []) := by
  refine lv_iload F.1 F.2.1 dL_does_679 (lv_at hl 0 rfl) ?_
  refine lv_if_eq (tgt := 694) F.1 F.2.1 dL_does_681 (by decide) (fun c1 => ?_) (fun c1 => False.elim (by revert c1; decide))
  refine lv_iconst (v := 1) F.1 F.2.1 dL_does_694 (by decide) ?_
  refine lv_goto (tgt := 699) F.1 F.2.1 dL_does_695 (by decide) ?_
  exact w_zret F hr hlocks hP hS (Or.inr rfl) dL_does_699 ⟨rfl, _, _, _, ⟨hL, _, hH⟩, (J_mono (by omega) hJ)⟩
set_option maxRecDepth 20000 in
set_option maxHeartbeats 4000000 in
theorem does_700 {p : Program} {l : Launch} {e : Env} {s : State} {m : MethodId} {below : List Frame} {meth : Method} {c : Code} {args : Array Value} {D : va_G} {Y : Nat → ClassId} {ad : Nat → Nat} {N : Nat} (hI : wI ad N) (hN : 171 ≤ N) (F : wFix p s m c args cL_does RL 20 D Y ad N) (hr : meth.sig.returnType = some .boolean) (hlocks : meth.locks = false) {C : Nat → va_E} {f : Nat → Int32} {sl : Nat → Nat → Int32} {sv : Nat → Int32} {hv : Nat → Int32} {B : Int} {H : Heap} {locs : List Loc} (hP : wP D ad N C H) (hS : va_S (wA ad N) s.heap H locs) (hL : kLS Y ad C f sl sv) (hH : C 170 = .inl (Y 0, 8, .inl hv)) (hJ : J B f) (hB0 : 0 ≤ B) (hB : B + 7000 ≤ 900000000) {n : Nat} (h4 : f 4 = nI n) (hn : n ≤ 20) {v w : Int32} {rr : Int32} {ls : Array Slot} (hl : lv_has ls 20 [(5, .int rr), (4, .int (nI n)), (3, .int w), (2, .int v), (1, .ref (ad 170)), (0, .ref (ad 0))]) : W p l e { frames := 9, cells := 0, slots := 0, locals := 213 } s m args below meth c H locs 0 0 (MQ below (wQi D ad N (fun r C' => r = 1 ∧ ∃ (f' : Nat → Int32) (sl' : Nat → Nat → Int32) (sv' : Nat → Int32), kLT Y ad C' f' sl' sv' ∧ J (B + 100) f')) args s 0 0 (wA ad N)) (F0 m 700 ls []) := by
  refine lv_iload_n F.1 F.2.1 dL_does_700 rfl (lv_at hl 3 rfl) ?_
  refine lv_iconst (v := 5) F.1 F.2.1 dL_does_701 (by decide) ?_
  refine lv_ishr F.1 F.2.1 dL_does_702 ?_
  refine lv_iconst (v := 1) F.1 F.2.1 dL_does_703 (by decide) ?_
  refine lv_iand F.1 F.2.1 dL_does_704 ?_
  refine lv_if_eq (tgt := 724) F.1 F.2.1 dL_does_705 (by decide) (fun c1 => ?_) (fun c1 => ?_)
  · refine lv_iconst (v := 1) F.1 F.2.1 dL_does_724 (by decide) ?_
    refine lv_goto (tgt := 729) F.1 F.2.1 dL_does_725 (by decide) ?_
    exact w_zret F hr hlocks hP hS (Or.inr rfl) dL_does_729 ⟨rfl, _, _, _, ⟨hL, _, hH⟩, (J_mono (by omega) hJ)⟩
  · refine lv_aload_n F.1 F.2.1 dL_does_708 rfl (lv_at hl 5 rfl) ?_
    refine lv_aload_n F.1 F.2.1 dL_does_709 rfl (lv_at hl 4 rfl) ?_
    refine lv_iconst (v := 1) F.1 F.2.1 dL_does_710 (by decide) ?_
    refine lv_iload_n F.1 F.2.1 dL_does_711 rfl (lv_at hl 2 rfl) ?_
    refine lv_bipush (v := 60) F.1 F.2.1 dL_does_712 (by decide) ?_
    refine w_calls F hP hS (c_L_low l D Y ad N hI _ w 60 (by omega) (by omega)) (cwSm 2 F.2.2.2.2.1 (fun _ h => h) mw_731 mw_729 mw_730 mw_714 rfl rfl ydL_low ⟨by decide, by decide⟩) rfl hl.1 rfl (Nat.le_of_ble_eq_true rfl) dL_does_714 ⟨Nat.zero_le _, Nat.zero_le _⟩ (fun r1 C2 H locs hq hP hS => ?_)
    obtain ⟨hw1, j1, hj1, hr1⟩ := hq; rw [hw1] at hP; subst hr1
    refine lv_iadd F.1 F.2.1 dL_does_717 ?_
    refine lv_topi (fun v2 ev2 => ?_)
    have ev2 : v2 = nI (1 + j1) := ev2.trans (nI_add 1 j1)
    subst ev2
    refine w_calls F hP hS (c_L_isWidest l D Y ad N hI _ hN hL hH hJ hB0 (by omega) (nI (1 + j1)) ⟨nI_le (a := 1) (by omega) (by omega), nI_le (b := 60) (by omega) (by decide)⟩) (cwSm 3 F.2.2.2.2.1 (fun _ h => h) mw_747 mw_745 mw_746 mw_714 rfl rfl ydL_isWidest ⟨by decide, by decide⟩) rfl hl.1 rfl (Nat.le_of_ble_eq_true rfl) dL_does_718 ⟨Nat.zero_le _, Nat.zero_le _⟩ (fun r2 C2 H locs hq hP hS => ?_)
    obtain ⟨hr2, hL2, hvx2, hH2⟩ := hq; subst hr2
    refine lv_if_eq (tgt := 728) F.1 F.2.1 dL_does_721 (by decide) (fun c3 => False.elim (by revert c3; decide)) (fun c3 => ?_)
    refine lv_iconst (v := 1) F.1 F.2.1 dL_does_724 (by decide) ?_
    refine lv_goto (tgt := 729) F.1 F.2.1 dL_does_725 (by decide) ?_
    exact w_zret F hr hlocks hP hS (Or.inr rfl) dL_does_729 ⟨rfl, _, _, _, ⟨hL2, _, hH2⟩, (J_mono (by omega) hJ)⟩
set_option maxRecDepth 20000 in
set_option maxHeartbeats 4000000 in
theorem does_730_r {p : Program} {l : Launch} {e : Env} {s : State} {m : MethodId} {below : List Frame} {meth : Method} {c : Code} {args : Array Value} {D : va_G} {Y : Nat → ClassId} {ad : Nat → Nat} {N : Nat} (hI : wI ad N) (hN : 171 ≤ N) (F : wFix p s m c args cL_does RL 20 D Y ad N) (hr : meth.sig.returnType = some .boolean) (hlocks : meth.locks = false) {C : Nat → va_E} {f : Nat → Int32} {sl : Nat → Nat → Int32} {sv : Nat → Int32} {hv : Nat → Int32} {B : Int} {H : Heap} {locs : List Loc} (hP : wP D ad N C H) (hS : va_S (wA ad N) s.heap H locs) (hL : kLS Y ad C f sl sv) (hH : C 170 = .inl (Y 0, 8, .inl hv)) (hJ : J B f) (hB0 : 0 ≤ B) (hB : B + 7000 ≤ 900000000) {n : Nat} (h4 : f 4 = nI n) (hn : n ≤ 20) {v w : Int32} (h5 : f 5 = 1) (h11 : f 11 = 0) {ls : Array Slot} (hl : lv_has ls 20 [(5, .int 1), (4, .int (nI n)), (3, .int w), (2, .int v), (1, .ref (ad 170)), (0, .ref (ad 0))]) : W p l e { frames := 9, cells := 0, slots := 0, locals := 213 } s m args below meth c H locs 0 0 (MQ below (wQi D ad N (fun r C' => r = 1 ∧ ∃ (f' : Nat → Int32) (sl' : Nat → Nat → Int32) (sv' : Nat → Int32), kLT Y ad C' f' sl' sv' ∧ J (B + 100) f')) args s 0 0 (wA ad N)) (F0 m 730 ls []) := by
  refine lv_iload F.1 F.2.1 dL_does_730 (lv_at hl 0 rfl) ?_
  refine lv_if_eq (tgt := 743) F.1 F.2.1 dL_does_732 (by decide) (fun c1 => False.elim (by revert c1; decide)) (fun c1 => ?_)
  refine lv_aload_n F.1 F.2.1 dL_does_735 rfl (lv_at hl 5 rfl) ?_
  refine lv_aload_n F.1 F.2.1 dL_does_736 rfl (lv_at hl 4 rfl) ?_
  refine w_calls F hP hS (c_L_isRolled l D Y ad N hI _ hN hL hH hJ hB0 (by omega) h5 h11) (cwSm 2 F.2.2.2.2.1 (fun _ h => h) mw_752 mw_750 mw_751 mw_714 rfl rfl ydL_isRolled ⟨by decide, by decide⟩) rfl hl.1 rfl (Nat.le_of_ble_eq_true rfl) dL_does_737 ⟨Nat.zero_le _, Nat.zero_le _⟩ (fun r1 C1 H locs hq hP hS => ?_)
  obtain ⟨hr1, hL1, hvx1, hH1⟩ := hq; subst hr1
  refine lv_goto (tgt := 768) F.1 F.2.1 dL_does_740 (by decide) ?_
  exact w_zret F hr hlocks hP hS (Or.inr rfl) dL_does_768 ⟨rfl, _, _, _, ⟨hL1, _, hH1⟩, (J_mono (by omega) hJ)⟩
set_option maxRecDepth 20000 in
set_option maxHeartbeats 4000000 in
theorem does_730_n {p : Program} {l : Launch} {e : Env} {s : State} {m : MethodId} {below : List Frame} {meth : Method} {c : Code} {args : Array Value} {D : va_G} {Y : Nat → ClassId} {ad : Nat → Nat} {N : Nat} (hI : wI ad N) (hN : 171 ≤ N) (F : wFix p s m c args cL_does RL 20 D Y ad N) (hr : meth.sig.returnType = some .boolean) (hlocks : meth.locks = false) {C : Nat → va_E} {f : Nat → Int32} {sl : Nat → Nat → Int32} {sv : Nat → Int32} {hv : Nat → Int32} {B : Int} {H : Heap} {locs : List Loc} (hP : wP D ad N C H) (hS : va_S (wA ad N) s.heap H locs) (hL : kLS Y ad C f sl sv) (hH : C 170 = .inl (Y 0, 8, .inl hv)) (hJ : J B f) (hB0 : 0 ≤ B) (hB : B + 7000 ≤ 900000000) {n : Nat} (h4 : f 4 = nI n) (hn : n ≤ 20) {v w : Int32} (hno : ¬ (f 5 = 1 ∧ f 11 = 0)) {ls : Array Slot} (hl : lv_has ls 20 [(5, .int 0), (4, .int (nI n)), (3, .int w), (2, .int v), (1, .ref (ad 170)), (0, .ref (ad 0))]) : W p l e { frames := 9, cells := 0, slots := 0, locals := 213 } s m args below meth c H locs 0 0 (MQ below (wQi D ad N (fun r C' => r = 1 ∧ ∃ (f' : Nat → Int32) (sl' : Nat → Nat → Int32) (sv' : Nat → Int32), kLT Y ad C' f' sl' sv' ∧ J (B + 100) f')) args s 0 0 (wA ad N)) (F0 m 730 ls []) := by
  refine lv_iload F.1 F.2.1 dL_does_730 (lv_at hl 0 rfl) ?_
  refine lv_if_eq (tgt := 743) F.1 F.2.1 dL_does_732 (by decide) (fun c1 => ?_) (fun c1 => False.elim (by revert c1; decide))
  refine lv_aload_n F.1 F.2.1 dL_does_743 rfl (lv_at hl 5 rfl) ?_
  refine lv_iconst (v := 0) F.1 F.2.1 dL_does_744 (by decide) ?_
  refine w_calli F hP hS (k_ifRolled l D Y ad N hI hN _ hL 0 hJ.1 (by omega) hB0) (cwVm 1 F.2.2.2.2.1 (fun _ h => h) mw_509 mw_743 mw_507 mw_508 mw_2 rfl rfl ydX7_ifRolled ⟨by decide, by decide⟩) (by omega) (ls_at hL) rfl rfl hl.1 rfl (Nat.le_of_ble_eq_true rfl) dL_does_745 ⟨Nat.zero_le _, Nat.zero_le _⟩ (fun r1 C1 H locs hq hP hS => ?_)
  obtain ⟨hr1, hL1, hz1⟩ := hq
  have hH1 := hz1.trans hH
  have hr1 := hr1.trans (ifr_no hno)
  subst hr1
  refine lv_bipush (v := (-5)) F.1 F.2.1 dL_does_748 (by decide) ?_
  refine lv_icmp_ne (tgt := 767) F.1 F.2.1 dL_does_750 (by decide) (fun c2 => False.elim (by revert c2; decide)) (fun c2 => ?_)
  refine lv_aload_n F.1 F.2.1 dL_does_753 rfl (lv_at hl 5 rfl) ?_
  refine lv_iconst (v := 0) F.1 F.2.1 dL_does_754 (by decide) ?_
  refine w_calli F hP hS (k_saves l D Y ad N hI hN _ hL1 0 hJ.1 (by omega) hB0) (cwVm 1 F.2.2.2.2.1 (fun _ h => h) mw_533 mw_741 mw_531 mw_532 mw_2 rfl rfl ydX7_saves ⟨by decide, by decide⟩) (by omega) (ls_at hL1) rfl rfl hl.1 rfl (Nat.le_of_ble_eq_true rfl) dL_does_755 ⟨Nat.zero_le _, Nat.zero_le _⟩ (fun r2 C2 H locs hq hP hS => ?_)
  obtain ⟨hr2, hL2, hz2⟩ := hq
  have hH2 := hz2.trans hH1
  have hr2 := hr2.trans (svs_no hno)
  subst hr2
  refine lv_bipush (v := (-5)) F.1 F.2.1 dL_does_758 (by decide) ?_
  refine lv_icmp_ne (tgt := 767) F.1 F.2.1 dL_does_760 (by decide) (fun c3 => False.elim (by revert c3; decide)) (fun c3 => ?_)
  refine lv_iconst (v := 1) F.1 F.2.1 dL_does_763 (by decide) ?_
  refine lv_goto (tgt := 768) F.1 F.2.1 dL_does_764 (by decide) ?_
  exact w_zret F hr hlocks hP hS (Or.inr rfl) dL_does_768 ⟨rfl, _, _, _, ⟨hL2, _, hH2⟩, (J_mono (by omega) hJ)⟩
set_option maxRecDepth 20000 in
set_option maxHeartbeats 4000000 in
theorem does_769_r {p : Program} {l : Launch} {e : Env} {s : State} {m : MethodId} {below : List Frame} {meth : Method} {c : Code} {args : Array Value} {D : va_G} {Y : Nat → ClassId} {ad : Nat → Nat} {N : Nat} (hI : wI ad N) (hN : 171 ≤ N) (F : wFix p s m c args cL_does RL 20 D Y ad N) (hr : meth.sig.returnType = some .boolean) (hlocks : meth.locks = false) {C : Nat → va_E} {f : Nat → Int32} {sl : Nat → Nat → Int32} {sv : Nat → Int32} {hv : Nat → Int32} {B : Int} {H : Heap} {locs : List Loc} (hP : wP D ad N C H) (hS : va_S (wA ad N) s.heap H locs) (hL : kLS Y ad C f sl sv) (hH : C 170 = .inl (Y 0, 8, .inl hv)) (hJ : J B f) (hB0 : 0 ≤ B) (hB : B + 7000 ≤ 900000000) {n : Nat} (h4 : f 4 = nI n) (hn : n ≤ 20) {v w : Int32} (h5 : f 5 = 1) (h11 : f 11 = 0) {ls : Array Slot} (hl : lv_has ls 20 [(5, .int 1), (4, .int (nI n)), (3, .int w), (2, .int v), (1, .ref (ad 170)), (0, .ref (ad 0))]) : W p l e { frames := 9, cells := 0, slots := 0, locals := 213 } s m args below meth c H locs 0 0 (MQ below (wQi D ad N (fun r C' => r = 1 ∧ ∃ (f' : Nat → Int32) (sl' : Nat → Nat → Int32) (sv' : Nat → Int32), kLT Y ad C' f' sl' sv' ∧ J (B + 100) f')) args s 0 0 (wA ad N)) (F0 m 769 ls []) := by
  refine lv_iload F.1 F.2.1 dL_does_769 (lv_at hl 0 rfl) ?_
  refine lv_if_eq (tgt := 792) F.1 F.2.1 dL_does_771 (by decide) (fun c1 => False.elim (by revert c1; decide)) (fun c1 => ?_)
  refine lv_aload_n F.1 F.2.1 dL_does_774 rfl (lv_at hl 5 rfl) ?_
  refine lv_iconst (v := 4) F.1 F.2.1 dL_does_775 (by decide) ?_
  refine w_calli F hP hS (k_ofHoop l D Y ad N hI hN _ hL 4) (cwVm 1 F.2.2.2.2.1 (fun _ h => h) mw_454 mw_719 mw_452 mw_453 mw_2 rfl rfl ydX7_ofHoop ⟨by decide, by decide⟩) (by omega) (ls_at hL) rfl rfl hl.1 rfl (Nat.le_of_ble_eq_true rfl) dL_does_776 ⟨Nat.zero_le _, Nat.zero_le _⟩ (fun r1 C2 H locs hq hP hS => ?_)
  obtain ⟨hw1, hr1⟩ := hq; rw [hw1] at hP
  have hr1 := hr1.trans (oh_4 h5)
  subst hr1
  refine lv_iload F.1 F.2.1 dL_does_779 (lv_at hl 1 rfl) ?_
  refine lv_icmp_eq (tgt := 792) F.1 F.2.1 dL_does_781 (by decide) (fun c2 => ?_) (fun c2 => ?_)
  · refine lv_iconst (v := 1) F.1 F.2.1 dL_does_792 (by decide) ?_
    refine lv_goto (tgt := 797) F.1 F.2.1 dL_does_793 (by decide) ?_
    exact w_zret F hr hlocks hP hS (Or.inr rfl) dL_does_797 ⟨rfl, _, _, _, ⟨hL, _, hH⟩, (J_mono (by omega) hJ)⟩
  · have hlt : f 10 < f 4 := by obtain ⟨k2, n2, g10, g4, gk, gn, -, -⟩ := pl_at hJ.1 h5; have z : ¬ k2 = n2 := fun z => c2 (by rw [g10, z, ← g4, h4]); rw [g10, g4]; exact nI_lt (by omega) (by omega)
    refine lv_aload_n F.1 F.2.1 dL_does_784 rfl (lv_at hl 5 rfl) ?_
    refine lv_aload_n F.1 F.2.1 dL_does_785 rfl (lv_at hl 4 rfl) ?_
    refine w_calls F hP hS (c_L_isPart l D Y ad N hI _ hN hL hH hJ hB0 (by omega) h5 h11 hlt) (cwSm 2 F.2.2.2.2.1 (fun _ h => h) mw_755 mw_753 mw_754 mw_714 rfl rfl ydL_isPart ⟨by decide, by decide⟩) rfl hl.1 rfl (Nat.le_of_ble_eq_true rfl) dL_does_786 ⟨Nat.zero_le _, Nat.zero_le _⟩ (fun r2 C2 H locs hq hP hS => ?_)
    obtain ⟨hr2, hL2, hvx2, hH2⟩ := hq; subst hr2
    refine lv_if_eq (tgt := 796) F.1 F.2.1 dL_does_789 (by decide) (fun c3 => False.elim (by revert c3; decide)) (fun c3 => ?_)
    refine lv_iconst (v := 1) F.1 F.2.1 dL_does_792 (by decide) ?_
    refine lv_goto (tgt := 797) F.1 F.2.1 dL_does_793 (by decide) ?_
    exact w_zret F hr hlocks hP hS (Or.inr rfl) dL_does_797 ⟨rfl, _, _, _, ⟨hL2, _, hH2⟩, (J_mono (by omega) (J_roll1 hJ hB0 (by omega) h5 h11))⟩
set_option maxRecDepth 20000 in
set_option maxHeartbeats 4000000 in
theorem does_769_n {p : Program} {l : Launch} {e : Env} {s : State} {m : MethodId} {below : List Frame} {meth : Method} {c : Code} {args : Array Value} {D : va_G} {Y : Nat → ClassId} {ad : Nat → Nat} {N : Nat} (hI : wI ad N) (hN : 171 ≤ N) (F : wFix p s m c args cL_does RL 20 D Y ad N) (hr : meth.sig.returnType = some .boolean) (hlocks : meth.locks = false) {C : Nat → va_E} {f : Nat → Int32} {sl : Nat → Nat → Int32} {sv : Nat → Int32} {hv : Nat → Int32} {B : Int} {H : Heap} {locs : List Loc} (hP : wP D ad N C H) (hS : va_S (wA ad N) s.heap H locs) (hL : kLS Y ad C f sl sv) (hH : C 170 = .inl (Y 0, 8, .inl hv)) (hJ : J B f) (hB0 : 0 ≤ B) (hB : B + 7000 ≤ 900000000) {n : Nat} (h4 : f 4 = nI n) (hn : n ≤ 20) {v w : Int32} (hno : ¬ (f 5 = 1 ∧ f 11 = 0)) {ls : Array Slot} (hl : lv_has ls 20 [(5, .int 0), (4, .int (nI n)), (3, .int w), (2, .int v), (1, .ref (ad 170)), (0, .ref (ad 0))]) : W p l e { frames := 9, cells := 0, slots := 0, locals := 213 } s m args below meth c H locs 0 0 (MQ below (wQi D ad N (fun r C' => r = 1 ∧ ∃ (f' : Nat → Int32) (sl' : Nat → Nat → Int32) (sv' : Nat → Int32), kLT Y ad C' f' sl' sv' ∧ J (B + 100) f')) args s 0 0 (wA ad N)) (F0 m 769 ls []) := by
  refine lv_iload F.1 F.2.1 dL_does_769 (lv_at hl 0 rfl) ?_
  refine lv_if_eq (tgt := 792) F.1 F.2.1 dL_does_771 (by decide) (fun c1 => ?_) (fun c1 => False.elim (by revert c1; decide))
  refine lv_iconst (v := 1) F.1 F.2.1 dL_does_792 (by decide) ?_
  refine lv_goto (tgt := 797) F.1 F.2.1 dL_does_793 (by decide) ?_
  exact w_zret F hr hlocks hP hS (Or.inr rfl) dL_does_797 ⟨rfl, _, _, _, ⟨hL, _, hH⟩, (J_mono (by omega) hJ)⟩
