/-! p25: isPart, from its start -/
set_option maxRecDepth 20000 in
set_option maxHeartbeats 4000000 in
theorem ip_kind_0 {p : Program} {l : Launch} {e : Env} {s : State} {m : MethodId} {below : List Frame} {meth : Method} {c : Code} {args : Array Value} {D : va_G} {Y : Nat → ClassId} {ad : Nat → Nat} {N : Nat} (hI : wI ad N) (hN : 171 ≤ N) (F : wFix p s m c args cL_isPart RL 11 D Y ad N) (hr : meth.sig.returnType = some .boolean) (hlocks : meth.locks = false) {C : Nat → va_E} {f : Nat → Int32} {sl : Nat → Nat → Int32} {sv : Nat → Int32} {hv : Nat → Int32} {B : Int} {H : Heap} {locs : List Loc} (hP : wP D ad N C H) (hS : va_S (wA ad N) s.heap H locs) (hL : kLS Y ad C f sl sv) (hH : C 170 = .inl (Y 0, 8, .inl hv)) (hok : okRow B f) (hB0 : 0 ≤ B) (hB : B + 5000 ≤ 900000000) (h5 : f 5 = 1) (h11 : f 11 = 0) {k n : Nat} (h10 : f 10 = nI k) (h4 : f 4 = nI n) (hkn : k < n) (hn : n ≤ 20) (hv_0 : hv 0 = f 6) (hv_1 : hv 1 = f 7) (hv_3 : hv 3 = f 9) (hv_6 : hv 6 = f 12) (hv_7 : hv 7 = f 13) (hk : kindAt f k = 0) (o2 : 1 ≤ (valAt f k).toInt) {g1 : Nat → Int32} (kt : ∀ (w : Int32) (M : Nat → Int32) (hv : Nat → Int32) (C : Nat → va_E) (H : Heap) (locs : List Loc) (ls : Array Slot), (T_meet k f).1 = M → wP D ad N C H → va_S (wA ad N) s.heap H locs → kLS Y ad C f sl sv → C 170 = .inl (Y 0, 8, .inl hv) → hv 0 = f 6 → hv 1 = M 7 → hv 3 = M 9 → hv 6 = f 12 → hv 7 = f 13 → T_hw f k = w → lv_has ls 11 [(6, .int w), (5, .int (valAt f k)), (4, .int 0), (3, .int (nI k)), (2, .int (M 8)), (1, .ref (ad 170)), (0, .ref (ad 0))] → W p l e { frames := 7, cells := 0, slots := 0, locals := 151 } s m args below meth c H locs 0 0 (MQ below (wQi D ad N (fun r C' => r = 1 ∧ kLT Y ad C' g1 sl sv)) args s 0 0 (wA ad N)) (F0 m 330 ls [])) {ls : Array Slot} (hl : lv_has ls 11 [(6, .int 0), (5, .int (valAt f k)), (4, .int 0), (3, .int (nI k)), (2, .int (f 8)), (1, .ref (ad 170)), (0, .ref (ad 0))]) : W p l e { frames := 7, cells := 0, slots := 0, locals := 151 } s m args below meth c H locs 0 0 (MQ below (wQi D ad N (fun r C' => r = 1 ∧ kLT Y ad C' g1 sl sv)) args s 0 0 (wA ad N)) (F0 m 53 ls []) := by
  have eM : (T_meet k f).1 = T_drop (valAt f k) f := by unfold T_meet; rw [if_pos hk]
  have hm : (T_meet k f).2 = 0 := by unfold T_meet; rw [if_pos hk]
  have d7 : T_drop (valAt f k) f 7 = mn99 (f 7 + valAt f k * 4) := by unfold T_drop; rw [upd_n (by decide), upd_n (by decide), upd_s]
  have d9 : T_drop (valAt f k) f 9 = mn99 (f 9 + f 1 * valAt f k) := by unfold T_drop; rw [upd_n (by decide), upd_s]
  have d8 : T_drop (valAt f k) f 8 = f 8 + (if nI k - nI k / 2 * 2 = 0 then mn99 (f 9 + f 1 * valAt f k) / 4 else -(mn99 (f 9 + f 1 * valAt f k) / 4)) := by unfold T_drop; rw [upd_s, h10]
  refine lv_iload F.1 F.2.1 dL_isPart_53 (lv_at hl 2 rfl) ?_
  refine lv_if_ne (tgt := 149) F.1 F.2.1 dL_isPart_55 (by decide) (fun c1 => False.elim (by revert c1; decide)) (fun c1 => ?_)
  refine lv_aload_n F.1 F.2.1 dL_isPart_58 rfl (lv_at hl 5 rfl) ?_
  refine lv_iconst (v := 1) F.1 F.2.1 dL_isPart_59 (by decide) ?_
  refine lv_aload_n F.1 F.2.1 dL_isPart_60 rfl (lv_at hl 5 rfl) ?_
  refine lv_iconst (v := 1) F.1 F.2.1 dL_isPart_61 (by decide) ?_
  refine w_iald F hP (by omega) hH (k := 1) rfl (by decide) (Nat.le_of_ble_eq_true rfl) (v := f 7) hv_1 dL_isPart_62 ?_
  refine lv_iconst (v := 4) F.1 F.2.1 dL_isPart_63 (by decide) ?_
  refine lv_iload F.1 F.2.1 dL_isPart_64 (lv_at hl 1 rfl) ?_
  refine lv_imul F.1 F.2.1 dL_isPart_66 ?_
  refine lv_iadd F.1 F.2.1 dL_isPart_67 ?_
  refine lv_bipush (v := 99) F.1 F.2.1 dL_isPart_68 (by decide) ?_
  refine lv_icmp_le (tgt := 78) F.1 F.2.1 dL_isPart_70 (by decide) (fun c2 => ?_) (fun c2 => ?_)
  · refine lv_aload_n F.1 F.2.1 dL_isPart_78 rfl (lv_at hl 5 rfl) ?_
    refine lv_iconst (v := 1) F.1 F.2.1 dL_isPart_79 (by decide) ?_
    refine w_iald F hP (by omega) hH (k := 1) rfl (by decide) (Nat.le_of_ble_eq_true rfl) (v := f 7) hv_1 dL_isPart_80 ?_
    refine lv_iconst (v := 4) F.1 F.2.1 dL_isPart_81 (by decide) ?_
    refine lv_iload F.1 F.2.1 dL_isPart_82 (lv_at hl 1 rfl) ?_
    refine lv_imul F.1 F.2.1 dL_isPart_84 ?_
    refine lv_iadd F.1 F.2.1 dL_isPart_85 ?_
    refine lv_topi (fun v3 ev3 => ?_)
    have ev3 : v3 = mn99 (f 7 + valAt f k * 4) := ev3.trans ((mn_lo (i_nlt c2)).trans (by rw [Int32.mul_comm 4 (valAt f k)]))
    subst ev3
    obtain ⟨hv1, ehv1⟩ : ∃ z, z = upd hv 1 (mn99 (f 7 + valAt f k * 4)) := ⟨_, rfl⟩
    obtain ⟨K1, eK1⟩ : ∃ z, z = va_up C 170 (.inl (Y 0, 8, .inl hv1)) := ⟨_, rfl⟩
    refine w_iast F hI hP hS (by omega) hH (k := 1) rfl (by decide) (Nat.le_of_ble_eq_true rfl) (C1 := K1) (fun j => by rw [eK1, ehv1]) dL_isPart_86 (fun H locs hP hS => ?_)
    have hH1 : K1 170 = .inl (Y 0, 8, .inl hv1) := by rw [eK1]; exact va_up_self _ _ _
    have hL1 : kLS Y ad K1 f sl sv := ls_same hL (fun j hj => by rw [eK1]; exact va_up_ne _ _ (by omega))
    have a1_0 : hv1 0 = f 6 := by rw [ehv1, upd_n (by decide)]; exact hv_0
    have a1_3 : hv1 3 = f 9 := by rw [ehv1, upd_n (by decide)]; exact hv_3
    have a1_6 : hv1 6 = f 12 := by rw [ehv1, upd_n (by decide)]; exact hv_6
    have a1_7 : hv1 7 = f 13 := by rw [ehv1, upd_n (by decide)]; exact hv_7
    have a1_1 : hv1 1 = mn99 (f 7 + valAt f k * 4) := by rw [ehv1]; exact upd_s
    refine lv_aload_n F.1 F.2.1 dL_isPart_87 rfl (lv_at hl 5 rfl) ?_
    refine lv_iconst (v := 3) F.1 F.2.1 dL_isPart_88 (by decide) ?_
    refine lv_aload_n F.1 F.2.1 dL_isPart_89 rfl (lv_at hl 5 rfl) ?_
    refine lv_iconst (v := 3) F.1 F.2.1 dL_isPart_90 (by decide) ?_
    refine w_iald F hP (by omega) hH1 (k := 3) rfl (by decide) (Nat.le_of_ble_eq_true rfl) (v := f 9) a1_3 dL_isPart_91 ?_
    refine lv_aload_n F.1 F.2.1 dL_isPart_92 rfl (lv_at hl 6 rfl) ?_
    refine lv_bipush (v := 11) F.1 F.2.1 dL_isPart_93 (by decide) ?_
    refine w_calli F hP hS (k_count l D Y ad N hI hN _ hL1 11 (by decide) hok) (cwVm 1 F.2.2.2.2.1 (fun _ h => h) mw_482 mw_716 mw_480 mw_481 mw_2 rfl rfl ydX7_count ⟨by decide, by decide⟩) (by omega) (ls_at hL1) rfl rfl hl.1 rfl (Nat.le_of_ble_eq_true rfl) dL_isPart_95 ⟨Nat.zero_le _, Nat.zero_le _⟩ (fun r2 C2 H locs hq hP hS => ?_)
    obtain ⟨hw2, hr2⟩ := hq; rw [hw2] at hP
    have hr2 := hr2.trans cn_11
    subst hr2
    refine lv_iload F.1 F.2.1 dL_isPart_98 (lv_at hl 1 rfl) ?_
    refine lv_imul F.1 F.2.1 dL_isPart_100 ?_
    refine lv_iadd F.1 F.2.1 dL_isPart_101 ?_
    refine lv_bipush (v := 99) F.1 F.2.1 dL_isPart_102 (by decide) ?_
    refine lv_icmp_le (tgt := 112) F.1 F.2.1 dL_isPart_104 (by decide) (fun c4 => ?_) (fun c4 => ?_)
    · refine lv_aload_n F.1 F.2.1 dL_isPart_112 rfl (lv_at hl 5 rfl) ?_
      refine lv_iconst (v := 3) F.1 F.2.1 dL_isPart_113 (by decide) ?_
      refine w_iald F hP (by omega) hH1 (k := 3) rfl (by decide) (Nat.le_of_ble_eq_true rfl) (v := f 9) a1_3 dL_isPart_114 ?_
      refine lv_aload_n F.1 F.2.1 dL_isPart_115 rfl (lv_at hl 6 rfl) ?_
      refine lv_bipush (v := 11) F.1 F.2.1 dL_isPart_116 (by decide) ?_
      refine w_calli F hP hS (k_count l D Y ad N hI hN _ hL1 11 (by decide) hok) (cwVm 1 F.2.2.2.2.1 (fun _ h => h) mw_482 mw_716 mw_480 mw_481 mw_2 rfl rfl ydX7_count ⟨by decide, by decide⟩) (by omega) (ls_at hL1) rfl rfl hl.1 rfl (Nat.le_of_ble_eq_true rfl) dL_isPart_118 ⟨Nat.zero_le _, Nat.zero_le _⟩ (fun r3 C2 H locs hq hP hS => ?_)
      obtain ⟨hw3, hr3⟩ := hq; rw [hw3] at hP
      have hr3 := hr3.trans cn_11
      subst hr3
      refine lv_iload F.1 F.2.1 dL_isPart_121 (lv_at hl 1 rfl) ?_
      refine lv_imul F.1 F.2.1 dL_isPart_123 ?_
      refine lv_iadd F.1 F.2.1 dL_isPart_124 ?_
      refine lv_topi (fun v5 ev5 => ?_)
      have ev5 : v5 = mn99 (f 9 + f 1 * valAt f k) := ev5.trans (mn_lo (i_nlt c4))
      subst ev5
      obtain ⟨hv4, ehv4⟩ : ∃ z, z = upd hv1 3 (mn99 (f 9 + f 1 * valAt f k)) := ⟨_, rfl⟩
      obtain ⟨K4, eK4⟩ : ∃ z, z = va_up K1 170 (.inl (Y 0, 8, .inl hv4)) := ⟨_, rfl⟩
      refine w_iast F hI hP hS (by omega) hH1 (k := 3) rfl (by decide) (Nat.le_of_ble_eq_true rfl) (C1 := K4) (fun j => by rw [eK4, ehv4]) dL_isPart_125 (fun H locs hP hS => ?_)
      have hH4 : K4 170 = .inl (Y 0, 8, .inl hv4) := by rw [eK4]; exact va_up_self _ _ _
      have hL4 : kLS Y ad K4 f sl sv := ls_same hL1 (fun j hj => by rw [eK4]; exact va_up_ne _ _ (by omega))
      have a4_0 : hv4 0 = f 6 := by rw [ehv4, upd_n (by decide)]; exact a1_0
      have a4_6 : hv4 6 = f 12 := by rw [ehv4, upd_n (by decide)]; exact a1_6
      have a4_7 : hv4 7 = f 13 := by rw [ehv4, upd_n (by decide)]; exact a1_7
      have a4_1 : hv4 1 = mn99 (f 7 + valAt f k * 4) := by rw [ehv4, upd_n (by decide)]; exact a1_1
      have a4_3 : hv4 3 = mn99 (f 9 + f 1 * valAt f k) := by rw [ehv4]; exact upd_s
      refine lv_iload_n F.1 F.2.1 dL_isPart_126 rfl (lv_at hl 4 rfl) ?_
      refine lv_iload_n F.1 F.2.1 dL_isPart_127 rfl (lv_at hl 3 rfl) ?_
      refine lv_iconst (v := 2) F.1 F.2.1 dL_isPart_128 (by decide) ?_
      refine lv_irem F.1 F.2.1 dL_isPart_129 (by decide) ?_
      refine lv_if_ne (tgt := 141) F.1 F.2.1 dL_isPart_130 (by decide) (fun c6 => ?_) (fun c6 => ?_)
      · refine lv_aload_n F.1 F.2.1 dL_isPart_141 rfl (lv_at hl 5 rfl) ?_
        refine lv_iconst (v := 3) F.1 F.2.1 dL_isPart_142 (by decide) ?_
        refine w_iald F hP (by omega) hH4 (k := 3) rfl (by decide) (Nat.le_of_ble_eq_true rfl) (v := mn99 (f 9 + f 1 * valAt f k)) a4_3 dL_isPart_143 ?_
        refine lv_iconst (v := 4) F.1 F.2.1 dL_isPart_144 (by decide) ?_
        refine lv_idiv F.1 F.2.1 dL_isPart_145 (by decide) ?_
        refine lv_ineg F.1 F.2.1 dL_isPart_146 ?_
        refine lv_iadd F.1 F.2.1 dL_isPart_147 ?_
        refine lv_topi (fun v7 ev7 => ?_)
        have ev7 : v7 = T_drop (valAt f k) f 8 := ev7.trans ((congrArg (fun z => f 8 + z) (if_neg c6).symm).trans d8.symm)
        subst ev7
        refine lv_istore_n (lv' := [(2, .int (T_drop (valAt f k) f 8)), (6, .int (0)), (5, .int (valAt f k)), (4, .int (0)), (3, .int (nI k)), (1, .ref (ad 170)), (0, .ref (ad 0))]) F.1 F.2.1 dL_isPart_148 rfl hl (by decide) rfl (fun ls hl => ?_)
        refine lv_iconst (v := 0) F.1 F.2.1 dL_isPart_149 (by decide) ?_
        refine lv_istore (lv' := [(7, .int (0)), (2, .int (T_drop (valAt f k) f 8)), (6, .int (0)), (5, .int (valAt f k)), (4, .int (0)), (3, .int (nI k)), (1, .ref (ad 170)), (0, .ref (ad 0))]) F.1 F.2.1 dL_isPart_150 hl (by decide) rfl (fun ls hl => ?_)
        refine lv_iload F.1 F.2.1 dL_isPart_152 (lv_at hl 0 rfl) ?_
        refine lv_iload F.1 F.2.1 dL_isPart_154 (lv_at hl 3 rfl) ?_
        refine lv_icmp_ge (tgt := 255) F.1 F.2.1 dL_isPart_156 (by decide) (fun c8 => False.elim (il_0 o2 c8)) (fun c8 => ?_)
        refine lv_iload F.1 F.2.1 dL_isPart_159 (lv_at hl 4 rfl) ?_
        refine lv_iconst (v := 1) F.1 F.2.1 dL_isPart_161 (by decide) ?_
        refine lv_icmp_ne (tgt := 255) F.1 F.2.1 dL_isPart_162 (by decide) (fun c9 => ?_) (fun c9 => False.elim (by revert c9; decide))
        exact ip_how_0 hI hN F hr hlocks hP hS hL4 hH4 hok hB0 hB h5 h11 h10 h4 hkn hn eM a4_0 (a4_1.trans d7.symm) (a4_3.trans d9.symm) hm (fun w H locs ls a b c d => kt w _ _ _ H locs ls eM a b hL4 hH4 a4_0 (a4_1.trans d7.symm) (a4_3.trans d9.symm) a4_6 a4_7 c d) (lv_sub hl [0, 2, 3, 4, 5, 1, 6, 7] rfl)
      · refine lv_aload_n F.1 F.2.1 dL_isPart_133 rfl (lv_at hl 5 rfl) ?_
        refine lv_iconst (v := 3) F.1 F.2.1 dL_isPart_134 (by decide) ?_
        refine w_iald F hP (by omega) hH4 (k := 3) rfl (by decide) (Nat.le_of_ble_eq_true rfl) (v := mn99 (f 9 + f 1 * valAt f k)) a4_3 dL_isPart_135 ?_
        refine lv_iconst (v := 4) F.1 F.2.1 dL_isPart_136 (by decide) ?_
        refine lv_idiv F.1 F.2.1 dL_isPart_137 (by decide) ?_
        refine lv_goto (tgt := 147) F.1 F.2.1 dL_isPart_138 (by decide) ?_
        refine lv_iadd F.1 F.2.1 dL_isPart_147 ?_
        refine lv_topi (fun v10 ev10 => ?_)
        have ev10 : v10 = T_drop (valAt f k) f 8 := ev10.trans ((congrArg (fun z => f 8 + z) (if_pos c6).symm).trans d8.symm)
        subst ev10
        refine lv_istore_n (lv' := [(2, .int (T_drop (valAt f k) f 8)), (6, .int (0)), (5, .int (valAt f k)), (4, .int (0)), (3, .int (nI k)), (1, .ref (ad 170)), (0, .ref (ad 0))]) F.1 F.2.1 dL_isPart_148 rfl hl (by decide) rfl (fun ls hl => ?_)
        refine lv_iconst (v := 0) F.1 F.2.1 dL_isPart_149 (by decide) ?_
        refine lv_istore (lv' := [(7, .int (0)), (2, .int (T_drop (valAt f k) f 8)), (6, .int (0)), (5, .int (valAt f k)), (4, .int (0)), (3, .int (nI k)), (1, .ref (ad 170)), (0, .ref (ad 0))]) F.1 F.2.1 dL_isPart_150 hl (by decide) rfl (fun ls hl => ?_)
        refine lv_iload F.1 F.2.1 dL_isPart_152 (lv_at hl 0 rfl) ?_
        refine lv_iload F.1 F.2.1 dL_isPart_154 (lv_at hl 3 rfl) ?_
        refine lv_icmp_ge (tgt := 255) F.1 F.2.1 dL_isPart_156 (by decide) (fun c11 => False.elim (il_0 o2 c11)) (fun c11 => ?_)
        refine lv_iload F.1 F.2.1 dL_isPart_159 (lv_at hl 4 rfl) ?_
        refine lv_iconst (v := 1) F.1 F.2.1 dL_isPart_161 (by decide) ?_
        refine lv_icmp_ne (tgt := 255) F.1 F.2.1 dL_isPart_162 (by decide) (fun c12 => ?_) (fun c12 => False.elim (by revert c12; decide))
        exact ip_how_0 hI hN F hr hlocks hP hS hL4 hH4 hok hB0 hB h5 h11 h10 h4 hkn hn eM a4_0 (a4_1.trans d7.symm) (a4_3.trans d9.symm) hm (fun w H locs ls a b c d => kt w _ _ _ H locs ls eM a b hL4 hH4 a4_0 (a4_1.trans d7.symm) (a4_3.trans d9.symm) a4_6 a4_7 c d) (lv_sub hl [0, 2, 3, 4, 5, 1, 6, 7] rfl)
    · refine lv_bipush (v := 99) F.1 F.2.1 dL_isPart_107 (by decide) ?_
      refine lv_goto (tgt := 125) F.1 F.2.1 dL_isPart_109 (by decide) ?_
      refine lv_topi (fun v13 ev13 => ?_)
      have ev13 : v13 = mn99 (f 9 + f 1 * valAt f k) := ev13.trans (mn_hi (i_lt c4))
      subst ev13
      obtain ⟨hv3, ehv3⟩ : ∃ z, z = upd hv1 3 (mn99 (f 9 + f 1 * valAt f k)) := ⟨_, rfl⟩
      obtain ⟨K3, eK3⟩ : ∃ z, z = va_up K1 170 (.inl (Y 0, 8, .inl hv3)) := ⟨_, rfl⟩
      refine w_iast F hI hP hS (by omega) hH1 (k := 3) rfl (by decide) (Nat.le_of_ble_eq_true rfl) (C1 := K3) (fun j => by rw [eK3, ehv3]) dL_isPart_125 (fun H locs hP hS => ?_)
      have hH3 : K3 170 = .inl (Y 0, 8, .inl hv3) := by rw [eK3]; exact va_up_self _ _ _
      have hL3 : kLS Y ad K3 f sl sv := ls_same hL1 (fun j hj => by rw [eK3]; exact va_up_ne _ _ (by omega))
      have a3_0 : hv3 0 = f 6 := by rw [ehv3, upd_n (by decide)]; exact a1_0
      have a3_6 : hv3 6 = f 12 := by rw [ehv3, upd_n (by decide)]; exact a1_6
      have a3_7 : hv3 7 = f 13 := by rw [ehv3, upd_n (by decide)]; exact a1_7
      have a3_1 : hv3 1 = mn99 (f 7 + valAt f k * 4) := by rw [ehv3, upd_n (by decide)]; exact a1_1
      have a3_3 : hv3 3 = mn99 (f 9 + f 1 * valAt f k) := by rw [ehv3]; exact upd_s
      refine lv_iload_n F.1 F.2.1 dL_isPart_126 rfl (lv_at hl 4 rfl) ?_
      refine lv_iload_n F.1 F.2.1 dL_isPart_127 rfl (lv_at hl 3 rfl) ?_
      refine lv_iconst (v := 2) F.1 F.2.1 dL_isPart_128 (by decide) ?_
      refine lv_irem F.1 F.2.1 dL_isPart_129 (by decide) ?_
      refine lv_if_ne (tgt := 141) F.1 F.2.1 dL_isPart_130 (by decide) (fun c14 => ?_) (fun c14 => ?_)
      · refine lv_aload_n F.1 F.2.1 dL_isPart_141 rfl (lv_at hl 5 rfl) ?_
        refine lv_iconst (v := 3) F.1 F.2.1 dL_isPart_142 (by decide) ?_
        refine w_iald F hP (by omega) hH3 (k := 3) rfl (by decide) (Nat.le_of_ble_eq_true rfl) (v := mn99 (f 9 + f 1 * valAt f k)) a3_3 dL_isPart_143 ?_
        refine lv_iconst (v := 4) F.1 F.2.1 dL_isPart_144 (by decide) ?_
        refine lv_idiv F.1 F.2.1 dL_isPart_145 (by decide) ?_
        refine lv_ineg F.1 F.2.1 dL_isPart_146 ?_
        refine lv_iadd F.1 F.2.1 dL_isPart_147 ?_
        refine lv_topi (fun v15 ev15 => ?_)
        have ev15 : v15 = T_drop (valAt f k) f 8 := ev15.trans ((congrArg (fun z => f 8 + z) (if_neg c14).symm).trans d8.symm)
        subst ev15
        refine lv_istore_n (lv' := [(2, .int (T_drop (valAt f k) f 8)), (6, .int (0)), (5, .int (valAt f k)), (4, .int (0)), (3, .int (nI k)), (1, .ref (ad 170)), (0, .ref (ad 0))]) F.1 F.2.1 dL_isPart_148 rfl hl (by decide) rfl (fun ls hl => ?_)
        refine lv_iconst (v := 0) F.1 F.2.1 dL_isPart_149 (by decide) ?_
        refine lv_istore (lv' := [(7, .int (0)), (2, .int (T_drop (valAt f k) f 8)), (6, .int (0)), (5, .int (valAt f k)), (4, .int (0)), (3, .int (nI k)), (1, .ref (ad 170)), (0, .ref (ad 0))]) F.1 F.2.1 dL_isPart_150 hl (by decide) rfl (fun ls hl => ?_)
        refine lv_iload F.1 F.2.1 dL_isPart_152 (lv_at hl 0 rfl) ?_
        refine lv_iload F.1 F.2.1 dL_isPart_154 (lv_at hl 3 rfl) ?_
        refine lv_icmp_ge (tgt := 255) F.1 F.2.1 dL_isPart_156 (by decide) (fun c16 => False.elim (il_0 o2 c16)) (fun c16 => ?_)
        refine lv_iload F.1 F.2.1 dL_isPart_159 (lv_at hl 4 rfl) ?_
        refine lv_iconst (v := 1) F.1 F.2.1 dL_isPart_161 (by decide) ?_
        refine lv_icmp_ne (tgt := 255) F.1 F.2.1 dL_isPart_162 (by decide) (fun c17 => ?_) (fun c17 => False.elim (by revert c17; decide))
        exact ip_how_0 hI hN F hr hlocks hP hS hL3 hH3 hok hB0 hB h5 h11 h10 h4 hkn hn eM a3_0 (a3_1.trans d7.symm) (a3_3.trans d9.symm) hm (fun w H locs ls a b c d => kt w _ _ _ H locs ls eM a b hL3 hH3 a3_0 (a3_1.trans d7.symm) (a3_3.trans d9.symm) a3_6 a3_7 c d) (lv_sub hl [0, 2, 3, 4, 5, 1, 6, 7] rfl)
      · refine lv_aload_n F.1 F.2.1 dL_isPart_133 rfl (lv_at hl 5 rfl) ?_
        refine lv_iconst (v := 3) F.1 F.2.1 dL_isPart_134 (by decide) ?_
        refine w_iald F hP (by omega) hH3 (k := 3) rfl (by decide) (Nat.le_of_ble_eq_true rfl) (v := mn99 (f 9 + f 1 * valAt f k)) a3_3 dL_isPart_135 ?_
        refine lv_iconst (v := 4) F.1 F.2.1 dL_isPart_136 (by decide) ?_
        refine lv_idiv F.1 F.2.1 dL_isPart_137 (by decide) ?_
        refine lv_goto (tgt := 147) F.1 F.2.1 dL_isPart_138 (by decide) ?_
        refine lv_iadd F.1 F.2.1 dL_isPart_147 ?_
        refine lv_topi (fun v18 ev18 => ?_)
        have ev18 : v18 = T_drop (valAt f k) f 8 := ev18.trans ((congrArg (fun z => f 8 + z) (if_pos c14).symm).trans d8.symm)
        subst ev18
        refine lv_istore_n (lv' := [(2, .int (T_drop (valAt f k) f 8)), (6, .int (0)), (5, .int (valAt f k)), (4, .int (0)), (3, .int (nI k)), (1, .ref (ad 170)), (0, .ref (ad 0))]) F.1 F.2.1 dL_isPart_148 rfl hl (by decide) rfl (fun ls hl => ?_)
        refine lv_iconst (v := 0) F.1 F.2.1 dL_isPart_149 (by decide) ?_
        refine lv_istore (lv' := [(7, .int (0)), (2, .int (T_drop (valAt f k) f 8)), (6, .int (0)), (5, .int (valAt f k)), (4, .int (0)), (3, .int (nI k)), (1, .ref (ad 170)), (0, .ref (ad 0))]) F.1 F.2.1 dL_isPart_150 hl (by decide) rfl (fun ls hl => ?_)
        refine lv_iload F.1 F.2.1 dL_isPart_152 (lv_at hl 0 rfl) ?_
        refine lv_iload F.1 F.2.1 dL_isPart_154 (lv_at hl 3 rfl) ?_
        refine lv_icmp_ge (tgt := 255) F.1 F.2.1 dL_isPart_156 (by decide) (fun c19 => False.elim (il_0 o2 c19)) (fun c19 => ?_)
        refine lv_iload F.1 F.2.1 dL_isPart_159 (lv_at hl 4 rfl) ?_
        refine lv_iconst (v := 1) F.1 F.2.1 dL_isPart_161 (by decide) ?_
        refine lv_icmp_ne (tgt := 255) F.1 F.2.1 dL_isPart_162 (by decide) (fun c20 => ?_) (fun c20 => False.elim (by revert c20; decide))
        exact ip_how_0 hI hN F hr hlocks hP hS hL3 hH3 hok hB0 hB h5 h11 h10 h4 hkn hn eM a3_0 (a3_1.trans d7.symm) (a3_3.trans d9.symm) hm (fun w H locs ls a b c d => kt w _ _ _ H locs ls eM a b hL3 hH3 a3_0 (a3_1.trans d7.symm) (a3_3.trans d9.symm) a3_6 a3_7 c d) (lv_sub hl [0, 2, 3, 4, 5, 1, 6, 7] rfl)
  · refine lv_bipush (v := 99) F.1 F.2.1 dL_isPart_73 (by decide) ?_
    refine lv_goto (tgt := 86) F.1 F.2.1 dL_isPart_75 (by decide) ?_
    refine lv_topi (fun v21 ev21 => ?_)
    have ev21 : v21 = mn99 (f 7 + valAt f k * 4) := ev21.trans ((mn_hi (i_lt c2)).trans (by rw [Int32.mul_comm 4 (valAt f k)]))
    subst ev21
    obtain ⟨hv1, ehv1⟩ : ∃ z, z = upd hv 1 (mn99 (f 7 + valAt f k * 4)) := ⟨_, rfl⟩
    obtain ⟨K1, eK1⟩ : ∃ z, z = va_up C 170 (.inl (Y 0, 8, .inl hv1)) := ⟨_, rfl⟩
    refine w_iast F hI hP hS (by omega) hH (k := 1) rfl (by decide) (Nat.le_of_ble_eq_true rfl) (C1 := K1) (fun j => by rw [eK1, ehv1]) dL_isPart_86 (fun H locs hP hS => ?_)
    have hH1 : K1 170 = .inl (Y 0, 8, .inl hv1) := by rw [eK1]; exact va_up_self _ _ _
    have hL1 : kLS Y ad K1 f sl sv := ls_same hL (fun j hj => by rw [eK1]; exact va_up_ne _ _ (by omega))
    have a1_0 : hv1 0 = f 6 := by rw [ehv1, upd_n (by decide)]; exact hv_0
    have a1_3 : hv1 3 = f 9 := by rw [ehv1, upd_n (by decide)]; exact hv_3
    have a1_6 : hv1 6 = f 12 := by rw [ehv1, upd_n (by decide)]; exact hv_6
    have a1_7 : hv1 7 = f 13 := by rw [ehv1, upd_n (by decide)]; exact hv_7
    have a1_1 : hv1 1 = mn99 (f 7 + valAt f k * 4) := by rw [ehv1]; exact upd_s
    refine lv_aload_n F.1 F.2.1 dL_isPart_87 rfl (lv_at hl 5 rfl) ?_
    refine lv_iconst (v := 3) F.1 F.2.1 dL_isPart_88 (by decide) ?_
    refine lv_aload_n F.1 F.2.1 dL_isPart_89 rfl (lv_at hl 5 rfl) ?_
    refine lv_iconst (v := 3) F.1 F.2.1 dL_isPart_90 (by decide) ?_
    refine w_iald F hP (by omega) hH1 (k := 3) rfl (by decide) (Nat.le_of_ble_eq_true rfl) (v := f 9) a1_3 dL_isPart_91 ?_
    refine lv_aload_n F.1 F.2.1 dL_isPart_92 rfl (lv_at hl 6 rfl) ?_
    refine lv_bipush (v := 11) F.1 F.2.1 dL_isPart_93 (by decide) ?_
    refine w_calli F hP hS (k_count l D Y ad N hI hN _ hL1 11 (by decide) hok) (cwVm 1 F.2.2.2.2.1 (fun _ h => h) mw_482 mw_716 mw_480 mw_481 mw_2 rfl rfl ydX7_count ⟨by decide, by decide⟩) (by omega) (ls_at hL1) rfl rfl hl.1 rfl (Nat.le_of_ble_eq_true rfl) dL_isPart_95 ⟨Nat.zero_le _, Nat.zero_le _⟩ (fun r2 C2 H locs hq hP hS => ?_)
    obtain ⟨hw2, hr2⟩ := hq; rw [hw2] at hP
    have hr2 := hr2.trans cn_11
    subst hr2
    refine lv_iload F.1 F.2.1 dL_isPart_98 (lv_at hl 1 rfl) ?_
    refine lv_imul F.1 F.2.1 dL_isPart_100 ?_
    refine lv_iadd F.1 F.2.1 dL_isPart_101 ?_
    refine lv_bipush (v := 99) F.1 F.2.1 dL_isPart_102 (by decide) ?_
    refine lv_icmp_le (tgt := 112) F.1 F.2.1 dL_isPart_104 (by decide) (fun c22 => ?_) (fun c22 => ?_)
    · refine lv_aload_n F.1 F.2.1 dL_isPart_112 rfl (lv_at hl 5 rfl) ?_
      refine lv_iconst (v := 3) F.1 F.2.1 dL_isPart_113 (by decide) ?_
      refine w_iald F hP (by omega) hH1 (k := 3) rfl (by decide) (Nat.le_of_ble_eq_true rfl) (v := f 9) a1_3 dL_isPart_114 ?_
      refine lv_aload_n F.1 F.2.1 dL_isPart_115 rfl (lv_at hl 6 rfl) ?_
      refine lv_bipush (v := 11) F.1 F.2.1 dL_isPart_116 (by decide) ?_
      refine w_calli F hP hS (k_count l D Y ad N hI hN _ hL1 11 (by decide) hok) (cwVm 1 F.2.2.2.2.1 (fun _ h => h) mw_482 mw_716 mw_480 mw_481 mw_2 rfl rfl ydX7_count ⟨by decide, by decide⟩) (by omega) (ls_at hL1) rfl rfl hl.1 rfl (Nat.le_of_ble_eq_true rfl) dL_isPart_118 ⟨Nat.zero_le _, Nat.zero_le _⟩ (fun r3 C2 H locs hq hP hS => ?_)
      obtain ⟨hw3, hr3⟩ := hq; rw [hw3] at hP
      have hr3 := hr3.trans cn_11
      subst hr3
      refine lv_iload F.1 F.2.1 dL_isPart_121 (lv_at hl 1 rfl) ?_
      refine lv_imul F.1 F.2.1 dL_isPart_123 ?_
      refine lv_iadd F.1 F.2.1 dL_isPart_124 ?_
      refine lv_topi (fun v23 ev23 => ?_)
      have ev23 : v23 = mn99 (f 9 + f 1 * valAt f k) := ev23.trans (mn_lo (i_nlt c22))
      subst ev23
      obtain ⟨hv4, ehv4⟩ : ∃ z, z = upd hv1 3 (mn99 (f 9 + f 1 * valAt f k)) := ⟨_, rfl⟩
      obtain ⟨K4, eK4⟩ : ∃ z, z = va_up K1 170 (.inl (Y 0, 8, .inl hv4)) := ⟨_, rfl⟩
      refine w_iast F hI hP hS (by omega) hH1 (k := 3) rfl (by decide) (Nat.le_of_ble_eq_true rfl) (C1 := K4) (fun j => by rw [eK4, ehv4]) dL_isPart_125 (fun H locs hP hS => ?_)
      have hH4 : K4 170 = .inl (Y 0, 8, .inl hv4) := by rw [eK4]; exact va_up_self _ _ _
      have hL4 : kLS Y ad K4 f sl sv := ls_same hL1 (fun j hj => by rw [eK4]; exact va_up_ne _ _ (by omega))
      have a4_0 : hv4 0 = f 6 := by rw [ehv4, upd_n (by decide)]; exact a1_0
      have a4_6 : hv4 6 = f 12 := by rw [ehv4, upd_n (by decide)]; exact a1_6
      have a4_7 : hv4 7 = f 13 := by rw [ehv4, upd_n (by decide)]; exact a1_7
      have a4_1 : hv4 1 = mn99 (f 7 + valAt f k * 4) := by rw [ehv4, upd_n (by decide)]; exact a1_1
      have a4_3 : hv4 3 = mn99 (f 9 + f 1 * valAt f k) := by rw [ehv4]; exact upd_s
      refine lv_iload_n F.1 F.2.1 dL_isPart_126 rfl (lv_at hl 4 rfl) ?_
      refine lv_iload_n F.1 F.2.1 dL_isPart_127 rfl (lv_at hl 3 rfl) ?_
      refine lv_iconst (v := 2) F.1 F.2.1 dL_isPart_128 (by decide) ?_
      refine lv_irem F.1 F.2.1 dL_isPart_129 (by decide) ?_
      refine lv_if_ne (tgt := 141) F.1 F.2.1 dL_isPart_130 (by decide) (fun c24 => ?_) (fun c24 => ?_)
      · refine lv_aload_n F.1 F.2.1 dL_isPart_141 rfl (lv_at hl 5 rfl) ?_
        refine lv_iconst (v := 3) F.1 F.2.1 dL_isPart_142 (by decide) ?_
        refine w_iald F hP (by omega) hH4 (k := 3) rfl (by decide) (Nat.le_of_ble_eq_true rfl) (v := mn99 (f 9 + f 1 * valAt f k)) a4_3 dL_isPart_143 ?_
        refine lv_iconst (v := 4) F.1 F.2.1 dL_isPart_144 (by decide) ?_
        refine lv_idiv F.1 F.2.1 dL_isPart_145 (by decide) ?_
        refine lv_ineg F.1 F.2.1 dL_isPart_146 ?_
        refine lv_iadd F.1 F.2.1 dL_isPart_147 ?_
        refine lv_topi (fun v25 ev25 => ?_)
        have ev25 : v25 = T_drop (valAt f k) f 8 := ev25.trans ((congrArg (fun z => f 8 + z) (if_neg c24).symm).trans d8.symm)
        subst ev25
        refine lv_istore_n (lv' := [(2, .int (T_drop (valAt f k) f 8)), (6, .int (0)), (5, .int (valAt f k)), (4, .int (0)), (3, .int (nI k)), (1, .ref (ad 170)), (0, .ref (ad 0))]) F.1 F.2.1 dL_isPart_148 rfl hl (by decide) rfl (fun ls hl => ?_)
        refine lv_iconst (v := 0) F.1 F.2.1 dL_isPart_149 (by decide) ?_
        refine lv_istore (lv' := [(7, .int (0)), (2, .int (T_drop (valAt f k) f 8)), (6, .int (0)), (5, .int (valAt f k)), (4, .int (0)), (3, .int (nI k)), (1, .ref (ad 170)), (0, .ref (ad 0))]) F.1 F.2.1 dL_isPart_150 hl (by decide) rfl (fun ls hl => ?_)
        refine lv_iload F.1 F.2.1 dL_isPart_152 (lv_at hl 0 rfl) ?_
        refine lv_iload F.1 F.2.1 dL_isPart_154 (lv_at hl 3 rfl) ?_
        refine lv_icmp_ge (tgt := 255) F.1 F.2.1 dL_isPart_156 (by decide) (fun c26 => False.elim (il_0 o2 c26)) (fun c26 => ?_)
        refine lv_iload F.1 F.2.1 dL_isPart_159 (lv_at hl 4 rfl) ?_
        refine lv_iconst (v := 1) F.1 F.2.1 dL_isPart_161 (by decide) ?_
        refine lv_icmp_ne (tgt := 255) F.1 F.2.1 dL_isPart_162 (by decide) (fun c27 => ?_) (fun c27 => False.elim (by revert c27; decide))
        exact ip_how_0 hI hN F hr hlocks hP hS hL4 hH4 hok hB0 hB h5 h11 h10 h4 hkn hn eM a4_0 (a4_1.trans d7.symm) (a4_3.trans d9.symm) hm (fun w H locs ls a b c d => kt w _ _ _ H locs ls eM a b hL4 hH4 a4_0 (a4_1.trans d7.symm) (a4_3.trans d9.symm) a4_6 a4_7 c d) (lv_sub hl [0, 2, 3, 4, 5, 1, 6, 7] rfl)
      · refine lv_aload_n F.1 F.2.1 dL_isPart_133 rfl (lv_at hl 5 rfl) ?_
        refine lv_iconst (v := 3) F.1 F.2.1 dL_isPart_134 (by decide) ?_
        refine w_iald F hP (by omega) hH4 (k := 3) rfl (by decide) (Nat.le_of_ble_eq_true rfl) (v := mn99 (f 9 + f 1 * valAt f k)) a4_3 dL_isPart_135 ?_
        refine lv_iconst (v := 4) F.1 F.2.1 dL_isPart_136 (by decide) ?_
        refine lv_idiv F.1 F.2.1 dL_isPart_137 (by decide) ?_
        refine lv_goto (tgt := 147) F.1 F.2.1 dL_isPart_138 (by decide) ?_
        refine lv_iadd F.1 F.2.1 dL_isPart_147 ?_
        refine lv_topi (fun v28 ev28 => ?_)
        have ev28 : v28 = T_drop (valAt f k) f 8 := ev28.trans ((congrArg (fun z => f 8 + z) (if_pos c24).symm).trans d8.symm)
        subst ev28
        refine lv_istore_n (lv' := [(2, .int (T_drop (valAt f k) f 8)), (6, .int (0)), (5, .int (valAt f k)), (4, .int (0)), (3, .int (nI k)), (1, .ref (ad 170)), (0, .ref (ad 0))]) F.1 F.2.1 dL_isPart_148 rfl hl (by decide) rfl (fun ls hl => ?_)
        refine lv_iconst (v := 0) F.1 F.2.1 dL_isPart_149 (by decide) ?_
        refine lv_istore (lv' := [(7, .int (0)), (2, .int (T_drop (valAt f k) f 8)), (6, .int (0)), (5, .int (valAt f k)), (4, .int (0)), (3, .int (nI k)), (1, .ref (ad 170)), (0, .ref (ad 0))]) F.1 F.2.1 dL_isPart_150 hl (by decide) rfl (fun ls hl => ?_)
        refine lv_iload F.1 F.2.1 dL_isPart_152 (lv_at hl 0 rfl) ?_
        refine lv_iload F.1 F.2.1 dL_isPart_154 (lv_at hl 3 rfl) ?_
        refine lv_icmp_ge (tgt := 255) F.1 F.2.1 dL_isPart_156 (by decide) (fun c29 => False.elim (il_0 o2 c29)) (fun c29 => ?_)
        refine lv_iload F.1 F.2.1 dL_isPart_159 (lv_at hl 4 rfl) ?_
        refine lv_iconst (v := 1) F.1 F.2.1 dL_isPart_161 (by decide) ?_
        refine lv_icmp_ne (tgt := 255) F.1 F.2.1 dL_isPart_162 (by decide) (fun c30 => ?_) (fun c30 => False.elim (by revert c30; decide))
        exact ip_how_0 hI hN F hr hlocks hP hS hL4 hH4 hok hB0 hB h5 h11 h10 h4 hkn hn eM a4_0 (a4_1.trans d7.symm) (a4_3.trans d9.symm) hm (fun w H locs ls a b c d => kt w _ _ _ H locs ls eM a b hL4 hH4 a4_0 (a4_1.trans d7.symm) (a4_3.trans d9.symm) a4_6 a4_7 c d) (lv_sub hl [0, 2, 3, 4, 5, 1, 6, 7] rfl)
    · refine lv_bipush (v := 99) F.1 F.2.1 dL_isPart_107 (by decide) ?_
      refine lv_goto (tgt := 125) F.1 F.2.1 dL_isPart_109 (by decide) ?_
      refine lv_topi (fun v31 ev31 => ?_)
      have ev31 : v31 = mn99 (f 9 + f 1 * valAt f k) := ev31.trans (mn_hi (i_lt c22))
      subst ev31
      obtain ⟨hv3, ehv3⟩ : ∃ z, z = upd hv1 3 (mn99 (f 9 + f 1 * valAt f k)) := ⟨_, rfl⟩
      obtain ⟨K3, eK3⟩ : ∃ z, z = va_up K1 170 (.inl (Y 0, 8, .inl hv3)) := ⟨_, rfl⟩
      refine w_iast F hI hP hS (by omega) hH1 (k := 3) rfl (by decide) (Nat.le_of_ble_eq_true rfl) (C1 := K3) (fun j => by rw [eK3, ehv3]) dL_isPart_125 (fun H locs hP hS => ?_)
      have hH3 : K3 170 = .inl (Y 0, 8, .inl hv3) := by rw [eK3]; exact va_up_self _ _ _
      have hL3 : kLS Y ad K3 f sl sv := ls_same hL1 (fun j hj => by rw [eK3]; exact va_up_ne _ _ (by omega))
      have a3_0 : hv3 0 = f 6 := by rw [ehv3, upd_n (by decide)]; exact a1_0
      have a3_6 : hv3 6 = f 12 := by rw [ehv3, upd_n (by decide)]; exact a1_6
      have a3_7 : hv3 7 = f 13 := by rw [ehv3, upd_n (by decide)]; exact a1_7
      have a3_1 : hv3 1 = mn99 (f 7 + valAt f k * 4) := by rw [ehv3, upd_n (by decide)]; exact a1_1
      have a3_3 : hv3 3 = mn99 (f 9 + f 1 * valAt f k) := by rw [ehv3]; exact upd_s
      refine lv_iload_n F.1 F.2.1 dL_isPart_126 rfl (lv_at hl 4 rfl) ?_
      refine lv_iload_n F.1 F.2.1 dL_isPart_127 rfl (lv_at hl 3 rfl) ?_
      refine lv_iconst (v := 2) F.1 F.2.1 dL_isPart_128 (by decide) ?_
      refine lv_irem F.1 F.2.1 dL_isPart_129 (by decide) ?_
      refine lv_if_ne (tgt := 141) F.1 F.2.1 dL_isPart_130 (by decide) (fun c32 => ?_) (fun c32 => ?_)
      · refine lv_aload_n F.1 F.2.1 dL_isPart_141 rfl (lv_at hl 5 rfl) ?_
        refine lv_iconst (v := 3) F.1 F.2.1 dL_isPart_142 (by decide) ?_
        refine w_iald F hP (by omega) hH3 (k := 3) rfl (by decide) (Nat.le_of_ble_eq_true rfl) (v := mn99 (f 9 + f 1 * valAt f k)) a3_3 dL_isPart_143 ?_
        refine lv_iconst (v := 4) F.1 F.2.1 dL_isPart_144 (by decide) ?_
        refine lv_idiv F.1 F.2.1 dL_isPart_145 (by decide) ?_
        refine lv_ineg F.1 F.2.1 dL_isPart_146 ?_
        refine lv_iadd F.1 F.2.1 dL_isPart_147 ?_
        refine lv_topi (fun v33 ev33 => ?_)
        have ev33 : v33 = T_drop (valAt f k) f 8 := ev33.trans ((congrArg (fun z => f 8 + z) (if_neg c32).symm).trans d8.symm)
        subst ev33
        refine lv_istore_n (lv' := [(2, .int (T_drop (valAt f k) f 8)), (6, .int (0)), (5, .int (valAt f k)), (4, .int (0)), (3, .int (nI k)), (1, .ref (ad 170)), (0, .ref (ad 0))]) F.1 F.2.1 dL_isPart_148 rfl hl (by decide) rfl (fun ls hl => ?_)
        refine lv_iconst (v := 0) F.1 F.2.1 dL_isPart_149 (by decide) ?_
        refine lv_istore (lv' := [(7, .int (0)), (2, .int (T_drop (valAt f k) f 8)), (6, .int (0)), (5, .int (valAt f k)), (4, .int (0)), (3, .int (nI k)), (1, .ref (ad 170)), (0, .ref (ad 0))]) F.1 F.2.1 dL_isPart_150 hl (by decide) rfl (fun ls hl => ?_)
        refine lv_iload F.1 F.2.1 dL_isPart_152 (lv_at hl 0 rfl) ?_
        refine lv_iload F.1 F.2.1 dL_isPart_154 (lv_at hl 3 rfl) ?_
        refine lv_icmp_ge (tgt := 255) F.1 F.2.1 dL_isPart_156 (by decide) (fun c34 => False.elim (il_0 o2 c34)) (fun c34 => ?_)
        refine lv_iload F.1 F.2.1 dL_isPart_159 (lv_at hl 4 rfl) ?_
        refine lv_iconst (v := 1) F.1 F.2.1 dL_isPart_161 (by decide) ?_
        refine lv_icmp_ne (tgt := 255) F.1 F.2.1 dL_isPart_162 (by decide) (fun c35 => ?_) (fun c35 => False.elim (by revert c35; decide))
        exact ip_how_0 hI hN F hr hlocks hP hS hL3 hH3 hok hB0 hB h5 h11 h10 h4 hkn hn eM a3_0 (a3_1.trans d7.symm) (a3_3.trans d9.symm) hm (fun w H locs ls a b c d => kt w _ _ _ H locs ls eM a b hL3 hH3 a3_0 (a3_1.trans d7.symm) (a3_3.trans d9.symm) a3_6 a3_7 c d) (lv_sub hl [0, 2, 3, 4, 5, 1, 6, 7] rfl)
      · refine lv_aload_n F.1 F.2.1 dL_isPart_133 rfl (lv_at hl 5 rfl) ?_
        refine lv_iconst (v := 3) F.1 F.2.1 dL_isPart_134 (by decide) ?_
        refine w_iald F hP (by omega) hH3 (k := 3) rfl (by decide) (Nat.le_of_ble_eq_true rfl) (v := mn99 (f 9 + f 1 * valAt f k)) a3_3 dL_isPart_135 ?_
        refine lv_iconst (v := 4) F.1 F.2.1 dL_isPart_136 (by decide) ?_
        refine lv_idiv F.1 F.2.1 dL_isPart_137 (by decide) ?_
        refine lv_goto (tgt := 147) F.1 F.2.1 dL_isPart_138 (by decide) ?_
        refine lv_iadd F.1 F.2.1 dL_isPart_147 ?_
        refine lv_topi (fun v36 ev36 => ?_)
        have ev36 : v36 = T_drop (valAt f k) f 8 := ev36.trans ((congrArg (fun z => f 8 + z) (if_pos c32).symm).trans d8.symm)
        subst ev36
        refine lv_istore_n (lv' := [(2, .int (T_drop (valAt f k) f 8)), (6, .int (0)), (5, .int (valAt f k)), (4, .int (0)), (3, .int (nI k)), (1, .ref (ad 170)), (0, .ref (ad 0))]) F.1 F.2.1 dL_isPart_148 rfl hl (by decide) rfl (fun ls hl => ?_)
        refine lv_iconst (v := 0) F.1 F.2.1 dL_isPart_149 (by decide) ?_
        refine lv_istore (lv' := [(7, .int (0)), (2, .int (T_drop (valAt f k) f 8)), (6, .int (0)), (5, .int (valAt f k)), (4, .int (0)), (3, .int (nI k)), (1, .ref (ad 170)), (0, .ref (ad 0))]) F.1 F.2.1 dL_isPart_150 hl (by decide) rfl (fun ls hl => ?_)
        refine lv_iload F.1 F.2.1 dL_isPart_152 (lv_at hl 0 rfl) ?_
        refine lv_iload F.1 F.2.1 dL_isPart_154 (lv_at hl 3 rfl) ?_
        refine lv_icmp_ge (tgt := 255) F.1 F.2.1 dL_isPart_156 (by decide) (fun c37 => False.elim (il_0 o2 c37)) (fun c37 => ?_)
        refine lv_iload F.1 F.2.1 dL_isPart_159 (lv_at hl 4 rfl) ?_
        refine lv_iconst (v := 1) F.1 F.2.1 dL_isPart_161 (by decide) ?_
        refine lv_icmp_ne (tgt := 255) F.1 F.2.1 dL_isPart_162 (by decide) (fun c38 => ?_) (fun c38 => False.elim (by revert c38; decide))
        exact ip_how_0 hI hN F hr hlocks hP hS hL3 hH3 hok hB0 hB h5 h11 h10 h4 hkn hn eM a3_0 (a3_1.trans d7.symm) (a3_3.trans d9.symm) hm (fun w H locs ls a b c d => kt w _ _ _ H locs ls eM a b hL3 hH3 a3_0 (a3_1.trans d7.symm) (a3_3.trans d9.symm) a3_6 a3_7 c d) (lv_sub hl [0, 2, 3, 4, 5, 1, 6, 7] rfl)
set_option maxRecDepth 20000 in
set_option maxHeartbeats 4000000 in
theorem ip_kind_2 {p : Program} {l : Launch} {e : Env} {s : State} {m : MethodId} {below : List Frame} {meth : Method} {c : Code} {args : Array Value} {D : va_G} {Y : Nat → ClassId} {ad : Nat → Nat} {N : Nat} (hI : wI ad N) (hN : 171 ≤ N) (F : wFix p s m c args cL_isPart RL 11 D Y ad N) (hr : meth.sig.returnType = some .boolean) (hlocks : meth.locks = false) {C : Nat → va_E} {f : Nat → Int32} {sl : Nat → Nat → Int32} {sv : Nat → Int32} {hv : Nat → Int32} {B : Int} {H : Heap} {locs : List Loc} (hP : wP D ad N C H) (hS : va_S (wA ad N) s.heap H locs) (hL : kLS Y ad C f sl sv) (hH : C 170 = .inl (Y 0, 8, .inl hv)) (hok : okRow B f) (hB0 : 0 ≤ B) (hB : B + 5000 ≤ 900000000) (h5 : f 5 = 1) (h11 : f 11 = 0) {k n : Nat} (h10 : f 10 = nI k) (h4 : f 4 = nI n) (hkn : k < n) (hn : n ≤ 20) (hv_0 : hv 0 = f 6) (hv_1 : hv 1 = f 7) (hv_3 : hv 3 = f 9) (hv_6 : hv 6 = f 12) (hv_7 : hv 7 = f 13) (hk : kindAt f k = 2) (o2 : 1 ≤ (valAt f k).toInt) {g1 : Nat → Int32} (kt : ∀ (w : Int32) (M : Nat → Int32) (hv : Nat → Int32) (C : Nat → va_E) (H : Heap) (locs : List Loc) (ls : Array Slot), (T_meet k f).1 = M → wP D ad N C H → va_S (wA ad N) s.heap H locs → kLS Y ad C f sl sv → C 170 = .inl (Y 0, 8, .inl hv) → hv 0 = f 6 → hv 1 = M 7 → hv 3 = M 9 → hv 6 = f 12 → hv 7 = f 13 → T_hw f k = w → lv_has ls 11 [(6, .int w), (5, .int (valAt f k)), (4, .int 2), (3, .int (nI k)), (2, .int (M 8)), (1, .ref (ad 170)), (0, .ref (ad 0))] → W p l e { frames := 7, cells := 0, slots := 0, locals := 151 } s m args below meth c H locs 0 0 (MQ below (wQi D ad N (fun r C' => r = 1 ∧ kLT Y ad C' g1 sl sv)) args s 0 0 (wA ad N)) (F0 m 330 ls [])) {ls : Array Slot} (hl : lv_has ls 11 [(6, .int 0), (5, .int (valAt f k)), (4, .int 2), (3, .int (nI k)), (2, .int (f 8)), (1, .ref (ad 170)), (0, .ref (ad 0))]) : W p l e { frames := 7, cells := 0, slots := 0, locals := 151 } s m args below meth c H locs 0 0 (MQ below (wQi D ad N (fun r C' => r = 1 ∧ kLT Y ad C' g1 sl sv)) args s 0 0 (wA ad N)) (F0 m 53 ls []) := by
  have eM : (T_meet k f).1 = f := by unfold T_meet; rw [if_neg (by rw [hk]; decide), if_neg (by rw [hk]; decide)]
  have hm : (T_meet k f).2 = if valAt f k < f 6 + f 9 / 4 then 2 else 0 := by unfold T_meet; rw [if_neg (by rw [hk]; decide), if_neg (by rw [hk]; decide)]
  refine lv_iload F.1 F.2.1 dL_isPart_53 (lv_at hl 2 rfl) ?_
  refine lv_if_ne (tgt := 149) F.1 F.2.1 dL_isPart_55 (by decide) (fun c1 => ?_) (fun c1 => False.elim (by revert c1; decide))
  refine lv_iconst (v := 0) F.1 F.2.1 dL_isPart_149 (by decide) ?_
  refine lv_istore (lv' := [(7, .int (0)), (6, .int (0)), (5, .int (valAt f k)), (4, .int (2)), (3, .int (nI k)), (2, .int (f 8)), (1, .ref (ad 170)), (0, .ref (ad 0))]) F.1 F.2.1 dL_isPart_150 hl (by decide) rfl (fun ls hl => ?_)
  refine lv_iload F.1 F.2.1 dL_isPart_152 (lv_at hl 0 rfl) ?_
  refine lv_iload F.1 F.2.1 dL_isPart_154 (lv_at hl 2 rfl) ?_
  refine lv_icmp_ge (tgt := 255) F.1 F.2.1 dL_isPart_156 (by decide) (fun c2 => False.elim (il_0 o2 c2)) (fun c2 => ?_)
  refine lv_iload F.1 F.2.1 dL_isPart_159 (lv_at hl 3 rfl) ?_
  refine lv_iconst (v := 1) F.1 F.2.1 dL_isPart_161 (by decide) ?_
  refine lv_icmp_ne (tgt := 255) F.1 F.2.1 dL_isPart_162 (by decide) (fun c3 => ?_) (fun c3 => False.elim (by revert c3; decide))
  exact ip_how_2 hI hN F hr hlocks hP hS hL hH hok hB0 hB h5 h11 h10 h4 hkn hn eM hv_0 hv_1 hv_3 hm (fun w H locs ls a b c d => kt w _ _ _ H locs ls eM a b hL hH hv_0 hv_1 hv_3 hv_6 hv_7 c d) (lv_sub hl [0, 1, 2, 3, 4, 5, 6, 7] rfl)
set_option maxRecDepth 20000 in
set_option maxHeartbeats 4000000 in
theorem ip_kind_1 {p : Program} {l : Launch} {e : Env} {s : State} {m : MethodId} {below : List Frame} {meth : Method} {c : Code} {args : Array Value} {D : va_G} {Y : Nat → ClassId} {ad : Nat → Nat} {N : Nat} (hI : wI ad N) (hN : 171 ≤ N) (F : wFix p s m c args cL_isPart RL 11 D Y ad N) (hr : meth.sig.returnType = some .boolean) (hlocks : meth.locks = false) {C : Nat → va_E} {f : Nat → Int32} {sl : Nat → Nat → Int32} {sv : Nat → Int32} {hv : Nat → Int32} {B : Int} {H : Heap} {locs : List Loc} (hP : wP D ad N C H) (hS : va_S (wA ad N) s.heap H locs) (hL : kLS Y ad C f sl sv) (hH : C 170 = .inl (Y 0, 8, .inl hv)) (hok : okRow B f) (hB0 : 0 ≤ B) (hB : B + 5000 ≤ 900000000) (h5 : f 5 = 1) (h11 : f 11 = 0) {k n : Nat} (h10 : f 10 = nI k) (h4 : f 4 = nI n) (hkn : k < n) (hn : n ≤ 20) (hv_0 : hv 0 = f 6) (hv_1 : hv 1 = f 7) (hv_3 : hv 3 = f 9) (hv_6 : hv 6 = f 12) (hv_7 : hv 7 = f 13) (hk : kindAt f k = 1) (o2 : 1 ≤ (valAt f k).toInt) {g1 : Nat → Int32} (kt : ∀ (w : Int32) (M : Nat → Int32) (hv : Nat → Int32) (C : Nat → va_E) (H : Heap) (locs : List Loc) (ls : Array Slot), (T_meet k f).1 = M → wP D ad N C H → va_S (wA ad N) s.heap H locs → kLS Y ad C f sl sv → C 170 = .inl (Y 0, 8, .inl hv) → hv 0 = f 6 → hv 1 = M 7 → hv 3 = M 9 → hv 6 = f 12 → hv 7 = f 13 → T_hw f k = w → lv_has ls 11 [(6, .int w), (5, .int (valAt f k)), (4, .int 1), (3, .int (nI k)), (2, .int (M 8)), (1, .ref (ad 170)), (0, .ref (ad 0))] → W p l e { frames := 7, cells := 0, slots := 0, locals := 151 } s m args below meth c H locs 0 0 (MQ below (wQi D ad N (fun r C' => r = 1 ∧ kLT Y ad C' g1 sl sv)) args s 0 0 (wA ad N)) (F0 m 330 ls [])) {ls : Array Slot} (hl : lv_has ls 11 [(6, .int 0), (5, .int (valAt f k)), (4, .int 1), (3, .int (nI k)), (2, .int (f 8)), (1, .ref (ad 170)), (0, .ref (ad 0))]) : W p l e { frames := 7, cells := 0, slots := 0, locals := 151 } s m args below meth c H locs 0 0 (MQ below (wQi D ad N (fun r C' => r = 1 ∧ kLT Y ad C' g1 sl sv)) args s 0 0 (wA ad N)) (F0 m 53 ls []) := by
  obtain ⟨V, eV⟩ : ∃ z, z = (valAt f k).toNatClampNeg := ⟨_, rfl⟩
  have eM : (T_meet k f).1 = T_lands V f := by unfold T_meet; rw [if_neg (by rw [hk]; decide), if_pos hk, eV]
  have hm : (T_meet k f).2 = if T_lands V f 7 = 0 then 3 else 0 := by unfold T_meet; rw [if_neg (by rw [hk]; decide), if_pos hk, eV]
  refine lv_iload F.1 F.2.1 dL_isPart_53 (lv_at hl 2 rfl) ?_
  refine lv_if_ne (tgt := 149) F.1 F.2.1 dL_isPart_55 (by decide) (fun c1 => ?_) (fun c1 => False.elim (by revert c1; decide))
  refine lv_iconst (v := 0) F.1 F.2.1 dL_isPart_149 (by decide) ?_
  refine lv_istore (lv' := [(7, .int (0)), (6, .int (0)), (5, .int (valAt f k)), (4, .int (1)), (3, .int (nI k)), (2, .int (f 8)), (1, .ref (ad 170)), (0, .ref (ad 0))]) F.1 F.2.1 dL_isPart_150 hl (by decide) rfl (fun ls hl => ?_)
  refine w_loop (Inv := fun j ls C' => ∃ (i : Nat) (g hw : Nat → Int32), j = V - i ∧ i ≤ V ∧ T_lands (V - i) g = T_lands V f ∧ g 2 = f 2 ∧ kLS Y ad C' f sl sv ∧ C' 170 = .inl (Y 0, 8, .inl hw) ∧ hw 0 = f 6 ∧ hw 1 = g 7 ∧ hw 3 = g 9 ∧ hw 6 = f 12 ∧ hw 7 = f 13 ∧ lv_has ls 11 [(7, .int (nI i)), (6, .int 0), (5, .int (valAt f k)), (4, .int 1), (3, .int (nI k)), (2, .int (g 8)), (1, .ref (ad 170)), (0, .ref (ad 0))]) ?_ V ⟨0, f, hv, rfl, Nat.zero_le _, rfl, rfl, hL, hH, hv_0, hv_1, hv_3, hv_6, hv_7, lv_sub hl [0, 1, 2, 3, 4, 5, 6, 7] rfl⟩ hP hS
  intro j ih H locs ls K0 hInv hP hS
  obtain ⟨i, g, hw, hj, hi, hT, h2, hL, hH, hv_0, hv_1, hv_3, hv_6, hv_7, hl⟩ := hInv
  refine lv_iload F.1 F.2.1 dL_isPart_152 (lv_at hl 0 rfl) ?_
  refine lv_iload F.1 F.2.1 dL_isPart_154 (lv_at hl 2 rfl) ?_
  refine lv_icmp_ge (tgt := 255) F.1 F.2.1 dL_isPart_156 (by decide) (fun c2 => ?_) (fun c2 => ?_)
  · have eg : g = T_lands V f := T_lands_e V i g f hT (by rw [eV] at hi ⊢; exact lc_out c2 hi)
    rw [eg] at hl hv_1 hv_3
    exact ip_how_1 hI hN F hr hlocks hP hS hL hH hok hB0 hB h5 h11 h10 h4 hkn hn eM hv_0 hv_1 hv_3 hm (fun w H locs ls a b c d => kt w _ _ _ H locs ls eM a b hL hH hv_0 hv_1 hv_3 hv_6 hv_7 c d) (lv_sub hl [0, 1, 2, 3, 4, 5, 6, 7] rfl)
  · have hiV : i < V := by rw [eV] at hi ⊢; exact lc_in c2 hi
    have l7 : T_land1 g 7 = slow (g 7) (f 2) := by unfold T_land1; rw [upd_n (by decide), upd_n (by decide), upd_s, h2]
    have l9 : T_land1 g 9 = g 9 - g 9 / 4 := by unfold T_land1; rw [upd_n (by decide), upd_s]
    have l8 : T_land1 g 8 = nearer (g 8) (slow (g 7) (f 2) / 20) := by unfold T_land1; rw [upd_s, h2]
    have l2 : T_land1 g 2 = f 2 := (T_land1_fr (by decide) (by decide) (by decide)).trans h2
    refine lv_iload F.1 F.2.1 dL_isPart_159 (lv_at hl 3 rfl) ?_
    refine lv_iconst (v := 1) F.1 F.2.1 dL_isPart_161 (by decide) ?_
    refine lv_icmp_ne (tgt := 255) F.1 F.2.1 dL_isPart_162 (by decide) (fun c3 => False.elim (by revert c3; decide)) (fun c3 => ?_)
    refine lv_aload_n F.1 F.2.1 dL_isPart_165 rfl (lv_at hl 6 rfl) ?_
    refine lv_iconst (v := 1) F.1 F.2.1 dL_isPart_166 (by decide) ?_
    refine lv_aload_n F.1 F.2.1 dL_isPart_167 rfl (lv_at hl 6 rfl) ?_
    refine lv_iconst (v := 1) F.1 F.2.1 dL_isPart_168 (by decide) ?_
    refine w_iald F hP (by omega) hH (k := 1) rfl (by decide) (Nat.le_of_ble_eq_true rfl) (v := g 7) hv_1 dL_isPart_169 ?_
    refine lv_aload_n F.1 F.2.1 dL_isPart_170 rfl (lv_at hl 7 rfl) ?_
    refine lv_bipush (v := 12) F.1 F.2.1 dL_isPart_171 (by decide) ?_
    refine w_calli F hP hS (k_count l D Y ad N hI hN _ hL 12 (by decide) hok) (cwVm 1 F.2.2.2.2.1 (fun _ h => h) mw_482 mw_716 mw_480 mw_481 mw_2 rfl rfl ydX7_count ⟨by decide, by decide⟩) (by omega) (ls_at hL) rfl rfl hl.1 rfl (Nat.le_of_ble_eq_true rfl) dL_isPart_173 ⟨Nat.zero_le _, Nat.zero_le _⟩ (fun r1 C2 H locs hq hP hS => ?_)
    obtain ⟨hw1, hr1⟩ := hq; rw [hw1] at hP
    have hr1 := hr1.trans cn_12
    subst hr1
    refine lv_icmp_le (tgt := 192) F.1 F.2.1 dL_isPart_176 (by decide) (fun c4 => ?_) (fun c4 => ?_)
    · refine lv_iconst (v := 0) F.1 F.2.1 dL_isPart_192 (by decide) ?_
      refine lv_topi (fun v5 ev5 => ?_)
      have ev5 : v5 = slow (g 7) (f 2) := ev5.trans (slow_lo (i_nlt c4))
      subst ev5
      obtain ⟨hv2, ehv2⟩ : ∃ z, z = upd hw 1 (slow (g 7) (f 2)) := ⟨_, rfl⟩
      obtain ⟨K2, eK2⟩ : ∃ z, z = va_up K0 170 (.inl (Y 0, 8, .inl hv2)) := ⟨_, rfl⟩
      refine w_iast F hI hP hS (by omega) hH (k := 1) rfl (by decide) (Nat.le_of_ble_eq_true rfl) (C1 := K2) (fun j => by rw [eK2, ehv2]) dL_isPart_193 (fun H locs hP hS => ?_)
      have hH2 : K2 170 = .inl (Y 0, 8, .inl hv2) := by rw [eK2]; exact va_up_self _ _ _
      have hL2 : kLS Y ad K2 f sl sv := ls_same hL (fun j hj => by rw [eK2]; exact va_up_ne _ _ (by omega))
      have a2_0 : hv2 0 = f 6 := by rw [ehv2, upd_n (by decide)]; exact hv_0
      have a2_3 : hv2 3 = g 9 := by rw [ehv2, upd_n (by decide)]; exact hv_3
      have a2_6 : hv2 6 = f 12 := by rw [ehv2, upd_n (by decide)]; exact hv_6
      have a2_7 : hv2 7 = f 13 := by rw [ehv2, upd_n (by decide)]; exact hv_7
      have a2_1 : hv2 1 = slow (g 7) (f 2) := by rw [ehv2]; exact upd_s
      refine lv_aload_n F.1 F.2.1 dL_isPart_194 rfl (lv_at hl 6 rfl) ?_
      refine lv_iconst (v := 3) F.1 F.2.1 dL_isPart_195 (by decide) ?_
      refine lv_aload_n F.1 F.2.1 dL_isPart_196 rfl (lv_at hl 6 rfl) ?_
      refine lv_iconst (v := 3) F.1 F.2.1 dL_isPart_197 (by decide) ?_
      refine w_iald F hP (by omega) hH2 (k := 3) rfl (by decide) (Nat.le_of_ble_eq_true rfl) (v := g 9) a2_3 dL_isPart_198 ?_
      refine lv_aload_n F.1 F.2.1 dL_isPart_199 rfl (lv_at hl 6 rfl) ?_
      refine lv_iconst (v := 3) F.1 F.2.1 dL_isPart_200 (by decide) ?_
      refine w_iald F hP (by omega) hH2 (k := 3) rfl (by decide) (Nat.le_of_ble_eq_true rfl) (v := g 9) a2_3 dL_isPart_201 ?_
      refine lv_iconst (v := 4) F.1 F.2.1 dL_isPart_202 (by decide) ?_
      refine lv_idiv F.1 F.2.1 dL_isPart_203 (by decide) ?_
      refine lv_isub F.1 F.2.1 dL_isPart_204 ?_
      obtain ⟨hv3, ehv3⟩ : ∃ z, z = upd hv2 3 ((g 9) - ((g 9) / 4)) := ⟨_, rfl⟩
      obtain ⟨K3, eK3⟩ : ∃ z, z = va_up K2 170 (.inl (Y 0, 8, .inl hv3)) := ⟨_, rfl⟩
      refine w_iast F hI hP hS (by omega) hH2 (k := 3) rfl (by decide) (Nat.le_of_ble_eq_true rfl) (C1 := K3) (fun j => by rw [eK3, ehv3]) dL_isPart_205 (fun H locs hP hS => ?_)
      have hH3 : K3 170 = .inl (Y 0, 8, .inl hv3) := by rw [eK3]; exact va_up_self _ _ _
      have hL3 : kLS Y ad K3 f sl sv := ls_same hL2 (fun j hj => by rw [eK3]; exact va_up_ne _ _ (by omega))
      have a3_0 : hv3 0 = f 6 := by rw [ehv3, upd_n (by decide)]; exact a2_0
      have a3_6 : hv3 6 = f 12 := by rw [ehv3, upd_n (by decide)]; exact a2_6
      have a3_7 : hv3 7 = f 13 := by rw [ehv3, upd_n (by decide)]; exact a2_7
      have a3_1 : hv3 1 = slow (g 7) (f 2) := by rw [ehv3, upd_n (by decide)]; exact a2_1
      have a3_3 : hv3 3 = (g 9) - ((g 9) / 4) := by rw [ehv3]; exact upd_s
      refine lv_aload_n F.1 F.2.1 dL_isPart_206 rfl (lv_at hl 6 rfl) ?_
      refine lv_iconst (v := 1) F.1 F.2.1 dL_isPart_207 (by decide) ?_
      refine w_iald F hP (by omega) hH3 (k := 1) rfl (by decide) (Nat.le_of_ble_eq_true rfl) (v := slow (g 7) (f 2)) a3_1 dL_isPart_208 ?_
      refine lv_bipush (v := 20) F.1 F.2.1 dL_isPart_209 (by decide) ?_
      refine lv_idiv F.1 F.2.1 dL_isPart_211 (by decide) ?_
      refine lv_iload_n F.1 F.2.1 dL_isPart_212 rfl (lv_at hl 5 rfl) ?_
      refine w_calls F hP hS (c_L_size l D Y ad N hI _ (g 8)) (cwSm 1 F.2.2.2.2.1 (fun _ h => h) mw_758 mw_756 mw_757 mw_714 rfl rfl ydL_size ⟨by decide, by decide⟩) rfl hl.1 rfl (Nat.le_of_ble_eq_true rfl) dL_isPart_213 ⟨Nat.zero_le _, Nat.zero_le _⟩ (fun r4 C2 H locs hq hP hS => ?_)
      obtain ⟨hw4, hr4⟩ := hq; rw [hw4] at hP
      subst hr4
      refine lv_icmp_ge (tgt := 228) F.1 F.2.1 dL_isPart_216 (by decide) (fun c6 => ?_) (fun c6 => ?_)
      · refine lv_iload_n F.1 F.2.1 dL_isPart_228 rfl (lv_at hl 5 rfl) ?_
        refine w_calls F hP hS (c_L_size l D Y ad N hI _ (g 8)) (cwSm 1 F.2.2.2.2.1 (fun _ h => h) mw_758 mw_756 mw_757 mw_714 rfl rfl ydL_size ⟨by decide, by decide⟩) rfl hl.1 rfl (Nat.le_of_ble_eq_true rfl) dL_isPart_229 ⟨Nat.zero_le _, Nat.zero_le _⟩ (fun r5 C2 H locs hq hP hS => ?_)
        obtain ⟨hw5, hr5⟩ := hq; rw [hw5] at hP
        subst hr5
        refine lv_topi (fun v7 ev7 => ?_)
        have ev7 : v7 = if slow (g 7) (f 2) / 20 < iabs (g 8) then slow (g 7) (f 2) / 20 else iabs (g 8) := ev7.trans (if_neg (i_nlt c6)).symm
        subst ev7
        refine lv_istore (lv' := [(8, .int (if slow (g 7) (f 2) / 20 < iabs (g 8) then slow (g 7) (f 2) / 20 else iabs (g 8))), (7, .int (nI i)), (6, .int (0)), (5, .int (valAt f k)), (4, .int (1)), (3, .int (nI k)), (2, .int (g 8)), (1, .ref (ad 170)), (0, .ref (ad 0))]) F.1 F.2.1 dL_isPart_232 hl (by decide) rfl (fun ls hl => ?_)
        refine lv_iload_n F.1 F.2.1 dL_isPart_234 rfl (lv_at hl 6 rfl) ?_
        refine lv_iload_n F.1 F.2.1 dL_isPart_235 rfl (lv_at hl 6 rfl) ?_
        refine lv_if_ge (tgt := 244) F.1 F.2.1 dL_isPart_236 (by decide) (fun c8 => ?_) (fun c8 => ?_)
        · refine lv_iload F.1 F.2.1 dL_isPart_244 (lv_at hl 0 rfl) ?_
          refine lv_ineg F.1 F.2.1 dL_isPart_246 ?_
          refine lv_iadd F.1 F.2.1 dL_isPart_247 ?_
          refine lv_topi (fun v9 ev9 => ?_)
          have ev9 : v9 = T_land1 g 8 := ev9.trans ((Int32.sub_eq_add_neg _ _).symm.trans ((if_neg (i_nlt c8)).symm.trans l8.symm))
          subst ev9
          refine lv_istore_n (lv' := [(2, .int (T_land1 g 8)), (8, .int (if slow (g 7) (f 2) / 20 < iabs (g 8) then slow (g 7) (f 2) / 20 else iabs (g 8))), (7, .int (nI i)), (6, .int (0)), (5, .int (valAt f k)), (4, .int (1)), (3, .int (nI k)), (1, .ref (ad 170)), (0, .ref (ad 0))]) F.1 F.2.1 dL_isPart_248 rfl hl (by decide) rfl (fun ls hl => ?_)
          refine lv_iinc (v := (nI i) + 1) (lv' := [(7, .int ((nI i) + 1)), (2, .int (T_land1 g 8)), (8, .int (if slow (g 7) (f 2) / 20 < iabs (g 8) then slow (g 7) (f 2) / 20 else iabs (g 8))), (6, .int (0)), (5, .int (valAt f k)), (4, .int (1)), (3, .int (nI k)), (1, .ref (ad 170)), (0, .ref (ad 0))]) F.1 F.2.1 dL_isPart_249 hl (k := 2) rfl rfl (by decide) rfl (fun ls hl => ?_)
          refine lv_goto (tgt := 152) F.1 F.2.1 dL_isPart_252 (by decide) ?_
          exact ih _ (by omega) _ _ _ _ ⟨i + 1, T_land1 g, _, rfl, hiV, T_lands_s V i g f hT hiV, l2, hL3, hH3, a3_0, a3_1.trans l7.symm, a3_3.trans l9.symm, a3_6, a3_7, (by rw [nI_succ]; exact lv_sub hl [0, 3, 4, 5, 6, 1, 7, 8] rfl)⟩ hP hS
        · refine lv_iload F.1 F.2.1 dL_isPart_239 (lv_at hl 0 rfl) ?_
          refine lv_goto (tgt := 247) F.1 F.2.1 dL_isPart_241 (by decide) ?_
          refine lv_iadd F.1 F.2.1 dL_isPart_247 ?_
          refine lv_topi (fun v10 ev10 => ?_)
          have ev10 : v10 = T_land1 g 8 := ev10.trans ((if_pos (i_lt c8)).symm.trans l8.symm)
          subst ev10
          refine lv_istore_n (lv' := [(2, .int (T_land1 g 8)), (8, .int (if slow (g 7) (f 2) / 20 < iabs (g 8) then slow (g 7) (f 2) / 20 else iabs (g 8))), (7, .int (nI i)), (6, .int (0)), (5, .int (valAt f k)), (4, .int (1)), (3, .int (nI k)), (1, .ref (ad 170)), (0, .ref (ad 0))]) F.1 F.2.1 dL_isPart_248 rfl hl (by decide) rfl (fun ls hl => ?_)
          refine lv_iinc (v := (nI i) + 1) (lv' := [(7, .int ((nI i) + 1)), (2, .int (T_land1 g 8)), (8, .int (if slow (g 7) (f 2) / 20 < iabs (g 8) then slow (g 7) (f 2) / 20 else iabs (g 8))), (6, .int (0)), (5, .int (valAt f k)), (4, .int (1)), (3, .int (nI k)), (1, .ref (ad 170)), (0, .ref (ad 0))]) F.1 F.2.1 dL_isPart_249 hl (k := 2) rfl rfl (by decide) rfl (fun ls hl => ?_)
          refine lv_goto (tgt := 152) F.1 F.2.1 dL_isPart_252 (by decide) ?_
          exact ih _ (by omega) _ _ _ _ ⟨i + 1, T_land1 g, _, rfl, hiV, T_lands_s V i g f hT hiV, l2, hL3, hH3, a3_0, a3_1.trans l7.symm, a3_3.trans l9.symm, a3_6, a3_7, (by rw [nI_succ]; exact lv_sub hl [0, 3, 4, 5, 6, 1, 7, 8] rfl)⟩ hP hS
      · refine lv_aload_n F.1 F.2.1 dL_isPart_219 rfl (lv_at hl 6 rfl) ?_
        refine lv_iconst (v := 1) F.1 F.2.1 dL_isPart_220 (by decide) ?_
        refine w_iald F hP (by omega) hH3 (k := 1) rfl (by decide) (Nat.le_of_ble_eq_true rfl) (v := slow (g 7) (f 2)) a3_1 dL_isPart_221 ?_
        refine lv_bipush (v := 20) F.1 F.2.1 dL_isPart_222 (by decide) ?_
        refine lv_idiv F.1 F.2.1 dL_isPart_224 (by decide) ?_
        refine lv_goto (tgt := 232) F.1 F.2.1 dL_isPart_225 (by decide) ?_
        refine lv_topi (fun v11 ev11 => ?_)
        have ev11 : v11 = if slow (g 7) (f 2) / 20 < iabs (g 8) then slow (g 7) (f 2) / 20 else iabs (g 8) := ev11.trans (if_pos (i_lt c6)).symm
        subst ev11
        refine lv_istore (lv' := [(8, .int (if slow (g 7) (f 2) / 20 < iabs (g 8) then slow (g 7) (f 2) / 20 else iabs (g 8))), (7, .int (nI i)), (6, .int (0)), (5, .int (valAt f k)), (4, .int (1)), (3, .int (nI k)), (2, .int (g 8)), (1, .ref (ad 170)), (0, .ref (ad 0))]) F.1 F.2.1 dL_isPart_232 hl (by decide) rfl (fun ls hl => ?_)
        refine lv_iload_n F.1 F.2.1 dL_isPart_234 rfl (lv_at hl 6 rfl) ?_
        refine lv_iload_n F.1 F.2.1 dL_isPart_235 rfl (lv_at hl 6 rfl) ?_
        refine lv_if_ge (tgt := 244) F.1 F.2.1 dL_isPart_236 (by decide) (fun c12 => ?_) (fun c12 => ?_)
        · refine lv_iload F.1 F.2.1 dL_isPart_244 (lv_at hl 0 rfl) ?_
          refine lv_ineg F.1 F.2.1 dL_isPart_246 ?_
          refine lv_iadd F.1 F.2.1 dL_isPart_247 ?_
          refine lv_topi (fun v13 ev13 => ?_)
          have ev13 : v13 = T_land1 g 8 := ev13.trans ((Int32.sub_eq_add_neg _ _).symm.trans ((if_neg (i_nlt c12)).symm.trans l8.symm))
          subst ev13
          refine lv_istore_n (lv' := [(2, .int (T_land1 g 8)), (8, .int (if slow (g 7) (f 2) / 20 < iabs (g 8) then slow (g 7) (f 2) / 20 else iabs (g 8))), (7, .int (nI i)), (6, .int (0)), (5, .int (valAt f k)), (4, .int (1)), (3, .int (nI k)), (1, .ref (ad 170)), (0, .ref (ad 0))]) F.1 F.2.1 dL_isPart_248 rfl hl (by decide) rfl (fun ls hl => ?_)
          refine lv_iinc (v := (nI i) + 1) (lv' := [(7, .int ((nI i) + 1)), (2, .int (T_land1 g 8)), (8, .int (if slow (g 7) (f 2) / 20 < iabs (g 8) then slow (g 7) (f 2) / 20 else iabs (g 8))), (6, .int (0)), (5, .int (valAt f k)), (4, .int (1)), (3, .int (nI k)), (1, .ref (ad 170)), (0, .ref (ad 0))]) F.1 F.2.1 dL_isPart_249 hl (k := 2) rfl rfl (by decide) rfl (fun ls hl => ?_)
          refine lv_goto (tgt := 152) F.1 F.2.1 dL_isPart_252 (by decide) ?_
          exact ih _ (by omega) _ _ _ _ ⟨i + 1, T_land1 g, _, rfl, hiV, T_lands_s V i g f hT hiV, l2, hL3, hH3, a3_0, a3_1.trans l7.symm, a3_3.trans l9.symm, a3_6, a3_7, (by rw [nI_succ]; exact lv_sub hl [0, 3, 4, 5, 6, 1, 7, 8] rfl)⟩ hP hS
        · refine lv_iload F.1 F.2.1 dL_isPart_239 (lv_at hl 0 rfl) ?_
          refine lv_goto (tgt := 247) F.1 F.2.1 dL_isPart_241 (by decide) ?_
          refine lv_iadd F.1 F.2.1 dL_isPart_247 ?_
          refine lv_topi (fun v14 ev14 => ?_)
          have ev14 : v14 = T_land1 g 8 := ev14.trans ((if_pos (i_lt c12)).symm.trans l8.symm)
          subst ev14
          refine lv_istore_n (lv' := [(2, .int (T_land1 g 8)), (8, .int (if slow (g 7) (f 2) / 20 < iabs (g 8) then slow (g 7) (f 2) / 20 else iabs (g 8))), (7, .int (nI i)), (6, .int (0)), (5, .int (valAt f k)), (4, .int (1)), (3, .int (nI k)), (1, .ref (ad 170)), (0, .ref (ad 0))]) F.1 F.2.1 dL_isPart_248 rfl hl (by decide) rfl (fun ls hl => ?_)
          refine lv_iinc (v := (nI i) + 1) (lv' := [(7, .int ((nI i) + 1)), (2, .int (T_land1 g 8)), (8, .int (if slow (g 7) (f 2) / 20 < iabs (g 8) then slow (g 7) (f 2) / 20 else iabs (g 8))), (6, .int (0)), (5, .int (valAt f k)), (4, .int (1)), (3, .int (nI k)), (1, .ref (ad 170)), (0, .ref (ad 0))]) F.1 F.2.1 dL_isPart_249 hl (k := 2) rfl rfl (by decide) rfl (fun ls hl => ?_)
          refine lv_goto (tgt := 152) F.1 F.2.1 dL_isPart_252 (by decide) ?_
          exact ih _ (by omega) _ _ _ _ ⟨i + 1, T_land1 g, _, rfl, hiV, T_lands_s V i g f hT hiV, l2, hL3, hH3, a3_0, a3_1.trans l7.symm, a3_3.trans l9.symm, a3_6, a3_7, (by rw [nI_succ]; exact lv_sub hl [0, 3, 4, 5, 6, 1, 7, 8] rfl)⟩ hP hS
    · refine lv_aload_n F.1 F.2.1 dL_isPart_179 rfl (lv_at hl 6 rfl) ?_
      refine lv_iconst (v := 1) F.1 F.2.1 dL_isPart_180 (by decide) ?_
      refine w_iald F hP (by omega) hH (k := 1) rfl (by decide) (Nat.le_of_ble_eq_true rfl) (v := g 7) hv_1 dL_isPart_181 ?_
      refine lv_aload_n F.1 F.2.1 dL_isPart_182 rfl (lv_at hl 7 rfl) ?_
      refine lv_bipush (v := 12) F.1 F.2.1 dL_isPart_183 (by decide) ?_
      refine w_calli F hP hS (k_count l D Y ad N hI hN _ hL 12 (by decide) hok) (cwVm 1 F.2.2.2.2.1 (fun _ h => h) mw_482 mw_716 mw_480 mw_481 mw_2 rfl rfl ydX7_count ⟨by decide, by decide⟩) (by omega) (ls_at hL) rfl rfl hl.1 rfl (Nat.le_of_ble_eq_true rfl) dL_isPart_185 ⟨Nat.zero_le _, Nat.zero_le _⟩ (fun r2 C2 H locs hq hP hS => ?_)
      obtain ⟨hw2, hr2⟩ := hq; rw [hw2] at hP
      have hr2 := hr2.trans cn_12
      subst hr2
      refine lv_isub F.1 F.2.1 dL_isPart_188 ?_
      refine lv_goto (tgt := 193) F.1 F.2.1 dL_isPart_189 (by decide) ?_
      refine lv_topi (fun v15 ev15 => ?_)
      have ev15 : v15 = slow (g 7) (f 2) := ev15.trans (slow_hi (i_lt c4))
      subst ev15
      obtain ⟨hv3, ehv3⟩ : ∃ z, z = upd hw 1 (slow (g 7) (f 2)) := ⟨_, rfl⟩
      obtain ⟨K3, eK3⟩ : ∃ z, z = va_up K0 170 (.inl (Y 0, 8, .inl hv3)) := ⟨_, rfl⟩
      refine w_iast F hI hP hS (by omega) hH (k := 1) rfl (by decide) (Nat.le_of_ble_eq_true rfl) (C1 := K3) (fun j => by rw [eK3, ehv3]) dL_isPart_193 (fun H locs hP hS => ?_)
      have hH3 : K3 170 = .inl (Y 0, 8, .inl hv3) := by rw [eK3]; exact va_up_self _ _ _
      have hL3 : kLS Y ad K3 f sl sv := ls_same hL (fun j hj => by rw [eK3]; exact va_up_ne _ _ (by omega))
      have a3_0 : hv3 0 = f 6 := by rw [ehv3, upd_n (by decide)]; exact hv_0
      have a3_3 : hv3 3 = g 9 := by rw [ehv3, upd_n (by decide)]; exact hv_3
      have a3_6 : hv3 6 = f 12 := by rw [ehv3, upd_n (by decide)]; exact hv_6
      have a3_7 : hv3 7 = f 13 := by rw [ehv3, upd_n (by decide)]; exact hv_7
      have a3_1 : hv3 1 = slow (g 7) (f 2) := by rw [ehv3]; exact upd_s
      refine lv_aload_n F.1 F.2.1 dL_isPart_194 rfl (lv_at hl 6 rfl) ?_
      refine lv_iconst (v := 3) F.1 F.2.1 dL_isPart_195 (by decide) ?_
      refine lv_aload_n F.1 F.2.1 dL_isPart_196 rfl (lv_at hl 6 rfl) ?_
      refine lv_iconst (v := 3) F.1 F.2.1 dL_isPart_197 (by decide) ?_
      refine w_iald F hP (by omega) hH3 (k := 3) rfl (by decide) (Nat.le_of_ble_eq_true rfl) (v := g 9) a3_3 dL_isPart_198 ?_
      refine lv_aload_n F.1 F.2.1 dL_isPart_199 rfl (lv_at hl 6 rfl) ?_
      refine lv_iconst (v := 3) F.1 F.2.1 dL_isPart_200 (by decide) ?_
      refine w_iald F hP (by omega) hH3 (k := 3) rfl (by decide) (Nat.le_of_ble_eq_true rfl) (v := g 9) a3_3 dL_isPart_201 ?_
      refine lv_iconst (v := 4) F.1 F.2.1 dL_isPart_202 (by decide) ?_
      refine lv_idiv F.1 F.2.1 dL_isPart_203 (by decide) ?_
      refine lv_isub F.1 F.2.1 dL_isPart_204 ?_
      obtain ⟨hv4, ehv4⟩ : ∃ z, z = upd hv3 3 ((g 9) - ((g 9) / 4)) := ⟨_, rfl⟩
      obtain ⟨K4, eK4⟩ : ∃ z, z = va_up K3 170 (.inl (Y 0, 8, .inl hv4)) := ⟨_, rfl⟩
      refine w_iast F hI hP hS (by omega) hH3 (k := 3) rfl (by decide) (Nat.le_of_ble_eq_true rfl) (C1 := K4) (fun j => by rw [eK4, ehv4]) dL_isPart_205 (fun H locs hP hS => ?_)
      have hH4 : K4 170 = .inl (Y 0, 8, .inl hv4) := by rw [eK4]; exact va_up_self _ _ _
      have hL4 : kLS Y ad K4 f sl sv := ls_same hL3 (fun j hj => by rw [eK4]; exact va_up_ne _ _ (by omega))
      have a4_0 : hv4 0 = f 6 := by rw [ehv4, upd_n (by decide)]; exact a3_0
      have a4_6 : hv4 6 = f 12 := by rw [ehv4, upd_n (by decide)]; exact a3_6
      have a4_7 : hv4 7 = f 13 := by rw [ehv4, upd_n (by decide)]; exact a3_7
      have a4_1 : hv4 1 = slow (g 7) (f 2) := by rw [ehv4, upd_n (by decide)]; exact a3_1
      have a4_3 : hv4 3 = (g 9) - ((g 9) / 4) := by rw [ehv4]; exact upd_s
      refine lv_aload_n F.1 F.2.1 dL_isPart_206 rfl (lv_at hl 6 rfl) ?_
      refine lv_iconst (v := 1) F.1 F.2.1 dL_isPart_207 (by decide) ?_
      refine w_iald F hP (by omega) hH4 (k := 1) rfl (by decide) (Nat.le_of_ble_eq_true rfl) (v := slow (g 7) (f 2)) a4_1 dL_isPart_208 ?_
      refine lv_bipush (v := 20) F.1 F.2.1 dL_isPart_209 (by decide) ?_
      refine lv_idiv F.1 F.2.1 dL_isPart_211 (by decide) ?_
      refine lv_iload_n F.1 F.2.1 dL_isPart_212 rfl (lv_at hl 5 rfl) ?_
      refine w_calls F hP hS (c_L_size l D Y ad N hI _ (g 8)) (cwSm 1 F.2.2.2.2.1 (fun _ h => h) mw_758 mw_756 mw_757 mw_714 rfl rfl ydL_size ⟨by decide, by decide⟩) rfl hl.1 rfl (Nat.le_of_ble_eq_true rfl) dL_isPart_213 ⟨Nat.zero_le _, Nat.zero_le _⟩ (fun r5 C2 H locs hq hP hS => ?_)
      obtain ⟨hw5, hr5⟩ := hq; rw [hw5] at hP
      subst hr5
      refine lv_icmp_ge (tgt := 228) F.1 F.2.1 dL_isPart_216 (by decide) (fun c16 => ?_) (fun c16 => ?_)
      · refine lv_iload_n F.1 F.2.1 dL_isPart_228 rfl (lv_at hl 5 rfl) ?_
        refine w_calls F hP hS (c_L_size l D Y ad N hI _ (g 8)) (cwSm 1 F.2.2.2.2.1 (fun _ h => h) mw_758 mw_756 mw_757 mw_714 rfl rfl ydL_size ⟨by decide, by decide⟩) rfl hl.1 rfl (Nat.le_of_ble_eq_true rfl) dL_isPart_229 ⟨Nat.zero_le _, Nat.zero_le _⟩ (fun r6 C2 H locs hq hP hS => ?_)
        obtain ⟨hw6, hr6⟩ := hq; rw [hw6] at hP
        subst hr6
        refine lv_topi (fun v17 ev17 => ?_)
        have ev17 : v17 = if slow (g 7) (f 2) / 20 < iabs (g 8) then slow (g 7) (f 2) / 20 else iabs (g 8) := ev17.trans (if_neg (i_nlt c16)).symm
        subst ev17
        refine lv_istore (lv' := [(8, .int (if slow (g 7) (f 2) / 20 < iabs (g 8) then slow (g 7) (f 2) / 20 else iabs (g 8))), (7, .int (nI i)), (6, .int (0)), (5, .int (valAt f k)), (4, .int (1)), (3, .int (nI k)), (2, .int (g 8)), (1, .ref (ad 170)), (0, .ref (ad 0))]) F.1 F.2.1 dL_isPart_232 hl (by decide) rfl (fun ls hl => ?_)
        refine lv_iload_n F.1 F.2.1 dL_isPart_234 rfl (lv_at hl 6 rfl) ?_
        refine lv_iload_n F.1 F.2.1 dL_isPart_235 rfl (lv_at hl 6 rfl) ?_
        refine lv_if_ge (tgt := 244) F.1 F.2.1 dL_isPart_236 (by decide) (fun c18 => ?_) (fun c18 => ?_)
        · refine lv_iload F.1 F.2.1 dL_isPart_244 (lv_at hl 0 rfl) ?_
          refine lv_ineg F.1 F.2.1 dL_isPart_246 ?_
          refine lv_iadd F.1 F.2.1 dL_isPart_247 ?_
          refine lv_topi (fun v19 ev19 => ?_)
          have ev19 : v19 = T_land1 g 8 := ev19.trans ((Int32.sub_eq_add_neg _ _).symm.trans ((if_neg (i_nlt c18)).symm.trans l8.symm))
          subst ev19
          refine lv_istore_n (lv' := [(2, .int (T_land1 g 8)), (8, .int (if slow (g 7) (f 2) / 20 < iabs (g 8) then slow (g 7) (f 2) / 20 else iabs (g 8))), (7, .int (nI i)), (6, .int (0)), (5, .int (valAt f k)), (4, .int (1)), (3, .int (nI k)), (1, .ref (ad 170)), (0, .ref (ad 0))]) F.1 F.2.1 dL_isPart_248 rfl hl (by decide) rfl (fun ls hl => ?_)
          refine lv_iinc (v := (nI i) + 1) (lv' := [(7, .int ((nI i) + 1)), (2, .int (T_land1 g 8)), (8, .int (if slow (g 7) (f 2) / 20 < iabs (g 8) then slow (g 7) (f 2) / 20 else iabs (g 8))), (6, .int (0)), (5, .int (valAt f k)), (4, .int (1)), (3, .int (nI k)), (1, .ref (ad 170)), (0, .ref (ad 0))]) F.1 F.2.1 dL_isPart_249 hl (k := 2) rfl rfl (by decide) rfl (fun ls hl => ?_)
          refine lv_goto (tgt := 152) F.1 F.2.1 dL_isPart_252 (by decide) ?_
          exact ih _ (by omega) _ _ _ _ ⟨i + 1, T_land1 g, _, rfl, hiV, T_lands_s V i g f hT hiV, l2, hL4, hH4, a4_0, a4_1.trans l7.symm, a4_3.trans l9.symm, a4_6, a4_7, (by rw [nI_succ]; exact lv_sub hl [0, 3, 4, 5, 6, 1, 7, 8] rfl)⟩ hP hS
        · refine lv_iload F.1 F.2.1 dL_isPart_239 (lv_at hl 0 rfl) ?_
          refine lv_goto (tgt := 247) F.1 F.2.1 dL_isPart_241 (by decide) ?_
          refine lv_iadd F.1 F.2.1 dL_isPart_247 ?_
          refine lv_topi (fun v20 ev20 => ?_)
          have ev20 : v20 = T_land1 g 8 := ev20.trans ((if_pos (i_lt c18)).symm.trans l8.symm)
          subst ev20
          refine lv_istore_n (lv' := [(2, .int (T_land1 g 8)), (8, .int (if slow (g 7) (f 2) / 20 < iabs (g 8) then slow (g 7) (f 2) / 20 else iabs (g 8))), (7, .int (nI i)), (6, .int (0)), (5, .int (valAt f k)), (4, .int (1)), (3, .int (nI k)), (1, .ref (ad 170)), (0, .ref (ad 0))]) F.1 F.2.1 dL_isPart_248 rfl hl (by decide) rfl (fun ls hl => ?_)
          refine lv_iinc (v := (nI i) + 1) (lv' := [(7, .int ((nI i) + 1)), (2, .int (T_land1 g 8)), (8, .int (if slow (g 7) (f 2) / 20 < iabs (g 8) then slow (g 7) (f 2) / 20 else iabs (g 8))), (6, .int (0)), (5, .int (valAt f k)), (4, .int (1)), (3, .int (nI k)), (1, .ref (ad 170)), (0, .ref (ad 0))]) F.1 F.2.1 dL_isPart_249 hl (k := 2) rfl rfl (by decide) rfl (fun ls hl => ?_)
          refine lv_goto (tgt := 152) F.1 F.2.1 dL_isPart_252 (by decide) ?_
          exact ih _ (by omega) _ _ _ _ ⟨i + 1, T_land1 g, _, rfl, hiV, T_lands_s V i g f hT hiV, l2, hL4, hH4, a4_0, a4_1.trans l7.symm, a4_3.trans l9.symm, a4_6, a4_7, (by rw [nI_succ]; exact lv_sub hl [0, 3, 4, 5, 6, 1, 7, 8] rfl)⟩ hP hS
      · refine lv_aload_n F.1 F.2.1 dL_isPart_219 rfl (lv_at hl 6 rfl) ?_
        refine lv_iconst (v := 1) F.1 F.2.1 dL_isPart_220 (by decide) ?_
        refine w_iald F hP (by omega) hH4 (k := 1) rfl (by decide) (Nat.le_of_ble_eq_true rfl) (v := slow (g 7) (f 2)) a4_1 dL_isPart_221 ?_
        refine lv_bipush (v := 20) F.1 F.2.1 dL_isPart_222 (by decide) ?_
        refine lv_idiv F.1 F.2.1 dL_isPart_224 (by decide) ?_
        refine lv_goto (tgt := 232) F.1 F.2.1 dL_isPart_225 (by decide) ?_
        refine lv_topi (fun v21 ev21 => ?_)
        have ev21 : v21 = if slow (g 7) (f 2) / 20 < iabs (g 8) then slow (g 7) (f 2) / 20 else iabs (g 8) := ev21.trans (if_pos (i_lt c16)).symm
        subst ev21
        refine lv_istore (lv' := [(8, .int (if slow (g 7) (f 2) / 20 < iabs (g 8) then slow (g 7) (f 2) / 20 else iabs (g 8))), (7, .int (nI i)), (6, .int (0)), (5, .int (valAt f k)), (4, .int (1)), (3, .int (nI k)), (2, .int (g 8)), (1, .ref (ad 170)), (0, .ref (ad 0))]) F.1 F.2.1 dL_isPart_232 hl (by decide) rfl (fun ls hl => ?_)
        refine lv_iload_n F.1 F.2.1 dL_isPart_234 rfl (lv_at hl 6 rfl) ?_
        refine lv_iload_n F.1 F.2.1 dL_isPart_235 rfl (lv_at hl 6 rfl) ?_
        refine lv_if_ge (tgt := 244) F.1 F.2.1 dL_isPart_236 (by decide) (fun c22 => ?_) (fun c22 => ?_)
        · refine lv_iload F.1 F.2.1 dL_isPart_244 (lv_at hl 0 rfl) ?_
          refine lv_ineg F.1 F.2.1 dL_isPart_246 ?_
          refine lv_iadd F.1 F.2.1 dL_isPart_247 ?_
          refine lv_topi (fun v23 ev23 => ?_)
          have ev23 : v23 = T_land1 g 8 := ev23.trans ((Int32.sub_eq_add_neg _ _).symm.trans ((if_neg (i_nlt c22)).symm.trans l8.symm))
          subst ev23
          refine lv_istore_n (lv' := [(2, .int (T_land1 g 8)), (8, .int (if slow (g 7) (f 2) / 20 < iabs (g 8) then slow (g 7) (f 2) / 20 else iabs (g 8))), (7, .int (nI i)), (6, .int (0)), (5, .int (valAt f k)), (4, .int (1)), (3, .int (nI k)), (1, .ref (ad 170)), (0, .ref (ad 0))]) F.1 F.2.1 dL_isPart_248 rfl hl (by decide) rfl (fun ls hl => ?_)
          refine lv_iinc (v := (nI i) + 1) (lv' := [(7, .int ((nI i) + 1)), (2, .int (T_land1 g 8)), (8, .int (if slow (g 7) (f 2) / 20 < iabs (g 8) then slow (g 7) (f 2) / 20 else iabs (g 8))), (6, .int (0)), (5, .int (valAt f k)), (4, .int (1)), (3, .int (nI k)), (1, .ref (ad 170)), (0, .ref (ad 0))]) F.1 F.2.1 dL_isPart_249 hl (k := 2) rfl rfl (by decide) rfl (fun ls hl => ?_)
          refine lv_goto (tgt := 152) F.1 F.2.1 dL_isPart_252 (by decide) ?_
          exact ih _ (by omega) _ _ _ _ ⟨i + 1, T_land1 g, _, rfl, hiV, T_lands_s V i g f hT hiV, l2, hL4, hH4, a4_0, a4_1.trans l7.symm, a4_3.trans l9.symm, a4_6, a4_7, (by rw [nI_succ]; exact lv_sub hl [0, 3, 4, 5, 6, 1, 7, 8] rfl)⟩ hP hS
        · refine lv_iload F.1 F.2.1 dL_isPart_239 (lv_at hl 0 rfl) ?_
          refine lv_goto (tgt := 247) F.1 F.2.1 dL_isPart_241 (by decide) ?_
          refine lv_iadd F.1 F.2.1 dL_isPart_247 ?_
          refine lv_topi (fun v24 ev24 => ?_)
          have ev24 : v24 = T_land1 g 8 := ev24.trans ((if_pos (i_lt c22)).symm.trans l8.symm)
          subst ev24
          refine lv_istore_n (lv' := [(2, .int (T_land1 g 8)), (8, .int (if slow (g 7) (f 2) / 20 < iabs (g 8) then slow (g 7) (f 2) / 20 else iabs (g 8))), (7, .int (nI i)), (6, .int (0)), (5, .int (valAt f k)), (4, .int (1)), (3, .int (nI k)), (1, .ref (ad 170)), (0, .ref (ad 0))]) F.1 F.2.1 dL_isPart_248 rfl hl (by decide) rfl (fun ls hl => ?_)
          refine lv_iinc (v := (nI i) + 1) (lv' := [(7, .int ((nI i) + 1)), (2, .int (T_land1 g 8)), (8, .int (if slow (g 7) (f 2) / 20 < iabs (g 8) then slow (g 7) (f 2) / 20 else iabs (g 8))), (6, .int (0)), (5, .int (valAt f k)), (4, .int (1)), (3, .int (nI k)), (1, .ref (ad 170)), (0, .ref (ad 0))]) F.1 F.2.1 dL_isPart_249 hl (k := 2) rfl rfl (by decide) rfl (fun ls hl => ?_)
          refine lv_goto (tgt := 152) F.1 F.2.1 dL_isPart_252 (by decide) ?_
          exact ih _ (by omega) _ _ _ _ ⟨i + 1, T_land1 g, _, rfl, hiV, T_lands_s V i g f hT hiV, l2, hL4, hH4, a4_0, a4_1.trans l7.symm, a4_3.trans l9.symm, a4_6, a4_7, (by rw [nI_succ]; exact lv_sub hl [0, 3, 4, 5, 6, 1, 7, 8] rfl)⟩ hP hS
theorem oh_i {f : Nat → Int32} {i : Nat} (h5 : f 5 = 1) (h : i < 8) : T_ofHoop f (nI i) = T_about f (nI i) := by
  unfold T_ofHoop
  rw [if_pos ⟨nI_le (Nat.zero_le i) (by omega), nI_le (b := 7) (by omega) (by decide)⟩, if_neg (by rw [h5]; decide)]
set_option maxRecDepth 20000 in
set_option maxHeartbeats 4000000 in
/-- one part, as it was told -/
theorem c_L_isPart (l : Launch) (D : va_G) (Y : Nat → ClassId) (ad : Nat → Nat) (N : Nat) (hI : wI ad N) (C : Nat → va_E) (hN : 171 ≤ N) {f : Nat → Int32} {sl : Nat → Nat → Int32} {sv : Nat → Int32} (hL : kLS Y ad C f sl sv) {hv : Nat → Int32} (hH : C 170 = .inl (Y 0, 8, .inl hv)) {B : Int} (hJ : J B f) (hB0 : 0 ≤ B) (hB : B + 5000 ≤ 900000000) (h5 : f 5 = 1) (h11 : f 11 = 0) (hlt : f 10 < f 4) : Met l yL_isPart (wm yL_isPart cL_isPart 11 (some .boolean)) { frames := 7, cells := 0, slots := 0, locals := 151 } (wPc D Y ad N [.ref (ad 0), .ref (ad 170)] C) (wQi D ad N (fun r C' => r = 1 ∧ kLT Y ad C' (T_rolled 1 f 0) sl sv)) 0 0 (wA ad N) := by
  obtain ⟨k, n, h10, h4, hkn0, hn, e4n, -⟩ := pl_at hJ.1 h5
  have hkn : k < n := by rw [h10, h4] at hlt; exact (nI_ltI (a := k) (b := n) (by omega) (by omega)).mp hlt
  have hok := hJ.1
  refine wMet RL rfl (by decide +kernel) (Nat.le_of_ble_eq_true rfl) (lv := [(0, .ref (ad 0)), (1, .ref (ad 170))]) rfl ?_
  intro p e s m below meth c ls F hr hlocks hP hl
  have hS : va_S (wA ad N) s.heap s.heap [] := va_S.rf
  refine lv_iconst (v := 0) F.1 F.2.1 dL_isPart_0 (by decide) ?_
  refine lv_istore_n (lv' := [(2, .int (0)), (0, .ref (ad 0)), (1, .ref (ad 170))]) F.1 F.2.1 dL_isPart_1 rfl hl (by decide) rfl (fun ls hl => ?_)
  refine w_loop (Inv := fun j ls C' => ∃ (i : Nat) (hw : Nat → Int32), j = 8 - i ∧ i ≤ 8 ∧ kLS Y ad C' f sl sv ∧ C' 170 = .inl (Y 0, 8, .inl hw) ∧ (∀ q, q < i → hw q = T_about f (nI q)) ∧ lv_has ls 11 [(2, .int (nI i)), (1, .ref (ad 170)), (0, .ref (ad 0))]) ?_ 8 ⟨0, hv, rfl, Nat.zero_le _, hL, hH, fun q hq => absurd hq (Nat.not_lt_zero _), lv_sub hl [0, 2, 1] rfl⟩ hP hS
  intro j ih H locs ls K0 hInv hP hS
  obtain ⟨i, hw, hj, hi, hL, hH, hA, hl⟩ := hInv
  refine lv_iload_n F.1 F.2.1 dL_isPart_2 rfl (lv_at hl 0 rfl) ?_
  refine lv_bipush (v := 8) F.1 F.2.1 dL_isPart_3 (by decide) ?_
  refine lv_icmp_ge (tgt := 22) F.1 F.2.1 dL_isPart_5 (by decide) (fun c1 => ?_) (fun c1 => ?_)
  · have ei : 8 = i := by have q := (nI_leI (a := 8) (b := i) (by decide) (by omega)).mp c1; omega
    subst ei
    have hv_0 : hw 0 = f 6 := (hA 0 (by decide)).trans (ab_0)
    have hv_1 : hw 1 = f 7 := (hA 1 (by decide)).trans (ab_1)
    have hv_2 : hw 2 = f 8 + 500 := (hA 2 (by decide)).trans (ab_2)
    have hv_3 : hw 3 = f 9 := (hA 3 (by decide)).trans (ab_3)
    have hv_4 : hw 4 = nI k := (hA 4 (by decide)).trans (ab_4.trans h10)
    have hv_6 : hw 6 = f 12 := (hA 6 (by decide)).trans (ab_6)
    have hv_7 : hw 7 = f 13 := (hA 7 (by decide)).trans (ab_7)
    refine lv_aload_n F.1 F.2.1 dL_isPart_22 rfl (lv_at hl 1 rfl) ?_
    refine lv_iconst (v := 2) F.1 F.2.1 dL_isPart_23 (by decide) ?_
    refine w_iald F hP (by omega) hH (k := 2) rfl (by decide) (Nat.le_of_ble_eq_true rfl) (v := f 8 + 500) hv_2 dL_isPart_24 ?_
    refine lv_sipush (v := 500) F.1 F.2.1 dL_isPart_25 (by decide) ?_
    refine lv_isub F.1 F.2.1 dL_isPart_28 ?_
    refine lv_topi (fun v2 ev2 => ?_)
    have ev2 : v2 = f 8 := ev2.trans (re_add _)
    subst ev2
    refine lv_istore_n (lv' := [(2, .int (f 8)), (1, .ref (ad 170)), (0, .ref (ad 0))]) F.1 F.2.1 dL_isPart_29 rfl hl (by decide) rfl (fun ls hl => ?_)
    refine lv_aload_n F.1 F.2.1 dL_isPart_30 rfl (lv_at hl 1 rfl) ?_
    refine lv_iconst (v := 4) F.1 F.2.1 dL_isPart_31 (by decide) ?_
    refine w_iald F hP (by omega) hH (k := 4) rfl (by decide) (Nat.le_of_ble_eq_true rfl) (v := nI k) hv_4 dL_isPart_32 ?_
    refine lv_istore_n (lv' := [(3, .int (nI k)), (2, .int (f 8)), (1, .ref (ad 170)), (0, .ref (ad 0))]) F.1 F.2.1 dL_isPart_33 rfl hl (by decide) rfl (fun ls hl => ?_)
    refine lv_aload_n F.1 F.2.1 dL_isPart_34 rfl (lv_at hl 3 rfl) ?_
    refine lv_iload_n F.1 F.2.1 dL_isPart_35 rfl (lv_at hl 0 rfl) ?_
    refine lv_iconst (v := 0) F.1 F.2.1 dL_isPart_36 (by decide) ?_
    refine w_calli F hP hS (k_of l D Y ad N hI hN _ hL (nI k) 0) (cwVm 2 F.2.2.2.2.1 (fun _ h => h) mw_445 mw_717 mw_443 mw_444 mw_2 rfl rfl ydX7_of ⟨by decide, by decide⟩) (by omega) (ls_at hL) rfl rfl hl.1 rfl (Nat.le_of_ble_eq_true rfl) dL_isPart_37 ⟨Nat.zero_le _, Nat.zero_le _⟩ (fun r1 C2 H locs hq hP hS => ?_)
    obtain ⟨hw1, hr1⟩ := hq; rw [hw1] at hP
    have hr1 := hr1.trans (of_0 h4 hkn hn)
    subst hr1
    refine lv_istore (lv' := [(4, .int (kindAt f k)), (3, .int (nI k)), (2, .int (f 8)), (1, .ref (ad 170)), (0, .ref (ad 0))]) F.1 F.2.1 dL_isPart_40 hl (by decide) rfl (fun ls hl => ?_)
    refine lv_aload_n F.1 F.2.1 dL_isPart_42 rfl (lv_at hl 4 rfl) ?_
    refine lv_iload_n F.1 F.2.1 dL_isPart_43 rfl (lv_at hl 1 rfl) ?_
    refine lv_iconst (v := 1) F.1 F.2.1 dL_isPart_44 (by decide) ?_
    refine w_calli F hP hS (k_of l D Y ad N hI hN _ hL (nI k) 1) (cwVm 2 F.2.2.2.2.1 (fun _ h => h) mw_445 mw_717 mw_443 mw_444 mw_2 rfl rfl ydX7_of ⟨by decide, by decide⟩) (by omega) (ls_at hL) rfl rfl hl.1 rfl (Nat.le_of_ble_eq_true rfl) dL_isPart_45 ⟨Nat.zero_le _, Nat.zero_le _⟩ (fun r2 C2 H locs hq hP hS => ?_)
    obtain ⟨hw2, hr2⟩ := hq; rw [hw2] at hP
    have hr2 := hr2.trans (of_1 h4 hkn hn)
    subst hr2
    refine lv_istore (lv' := [(5, .int (valAt f k)), (4, .int (kindAt f k)), (3, .int (nI k)), (2, .int (f 8)), (1, .ref (ad 170)), (0, .ref (ad 0))]) F.1 F.2.1 dL_isPart_48 hl (by decide) rfl (fun ls hl => ?_)
    refine lv_iconst (v := 0) F.1 F.2.1 dL_isPart_50 (by decide) ?_
    refine lv_istore (lv' := [(6, .int (0)), (5, .int (valAt f k)), (4, .int (kindAt f k)), (3, .int (nI k)), (2, .int (f 8)), (1, .ref (ad 170)), (0, .ref (ad 0))]) F.1 F.2.1 dL_isPart_51 hl (by decide) rfl (fun ls hl => ?_)
    obtain ⟨o1, o2, -⟩ := hJ.2.1 k (by rw [e4n]; exact hkn)
    obtain ⟨g1, eg⟩ : ∃ z, T_rolled 1 f 0 = z := ⟨_, rfl⟩
    rw [eg]
    rcases o1 with hk | hk | hk
    · rw [hk] at hl
      refine ip_kind_0 hI hN F hr hlocks hP hS hL hH hok hB0 hB h5 h11 h10 h4 hkn hn hv_0 hv_1 hv_3 hv_6 hv_7 hk o2.1 (fun w M hv C H locs ls eM hP hS hL hH hv_0 hv_1 hv_3 hv_6 hv_7 hw hl => ?_) (lv_sub hl [0, 1, 2, 3, 4, 5, 6] rfl)
      obtain ⟨-, -, -, -, -, hm7, hm8, hm9, -, -⟩ := ip_facts hok (by omega) h5 h11 h10 h4 hkn hn eg
      rw [eM] at hm7 hm8 hm9
      rw [← hm7] at hv_1; rw [← hm9] at hv_3; rw [← hm8] at hl
      rcases hw_in f k with z | z | z | z | z
      · have ew : w = 0 := hw.symm.trans z
        subst ew
        exact ip_tail_0 hI hN F hr hlocks hP hS hL hH hok hB0 hB h5 h11 h10 h4 hkn hn eg z hv_0 hv_1 hv_3 hv_6 hv_7 hl
      · have ew : w = 1 := hw.symm.trans z
        subst ew
        exact ip_tail_1 hI hN F hr hlocks hP hS hL hH hok hB0 hB h5 h11 h10 h4 hkn hn eg z hv_0 hv_1 hv_3 hv_6 hv_7 hl
      · have ew : w = 2 := hw.symm.trans z
        subst ew
        exact ip_tail_2 hI hN F hr hlocks hP hS hL hH hok hB0 hB h5 h11 h10 h4 hkn hn eg z hv_0 hv_1 hv_3 hv_6 hv_7 hl
      · have ew : w = 3 := hw.symm.trans z
        subst ew
        exact ip_tail_3 hI hN F hr hlocks hP hS hL hH hok hB0 hB h5 h11 h10 h4 hkn hn eg z hv_0 hv_1 hv_3 hv_6 hv_7 hl
      · have ew : w = 4 := hw.symm.trans z
        subst ew
        exact ip_tail_4 hI hN F hr hlocks hP hS hL hH hok hB0 hB h5 h11 h10 h4 hkn hn eg z hv_0 hv_1 hv_3 hv_6 hv_7 hl
    · rw [hk] at hl
      refine ip_kind_1 hI hN F hr hlocks hP hS hL hH hok hB0 hB h5 h11 h10 h4 hkn hn hv_0 hv_1 hv_3 hv_6 hv_7 hk o2.1 (fun w M hv C H locs ls eM hP hS hL hH hv_0 hv_1 hv_3 hv_6 hv_7 hw hl => ?_) (lv_sub hl [0, 1, 2, 3, 4, 5, 6] rfl)
      obtain ⟨-, -, -, -, -, hm7, hm8, hm9, -, -⟩ := ip_facts hok (by omega) h5 h11 h10 h4 hkn hn eg
      rw [eM] at hm7 hm8 hm9
      rw [← hm7] at hv_1; rw [← hm9] at hv_3; rw [← hm8] at hl
      rcases hw_in f k with z | z | z | z | z
      · have ew : w = 0 := hw.symm.trans z
        subst ew
        exact ip_tail_0 hI hN F hr hlocks hP hS hL hH hok hB0 hB h5 h11 h10 h4 hkn hn eg z hv_0 hv_1 hv_3 hv_6 hv_7 hl
      · have ew : w = 1 := hw.symm.trans z
        subst ew
        exact ip_tail_1 hI hN F hr hlocks hP hS hL hH hok hB0 hB h5 h11 h10 h4 hkn hn eg z hv_0 hv_1 hv_3 hv_6 hv_7 hl
      · have ew : w = 2 := hw.symm.trans z
        subst ew
        exact ip_tail_2 hI hN F hr hlocks hP hS hL hH hok hB0 hB h5 h11 h10 h4 hkn hn eg z hv_0 hv_1 hv_3 hv_6 hv_7 hl
      · have ew : w = 3 := hw.symm.trans z
        subst ew
        exact ip_tail_3 hI hN F hr hlocks hP hS hL hH hok hB0 hB h5 h11 h10 h4 hkn hn eg z hv_0 hv_1 hv_3 hv_6 hv_7 hl
      · have ew : w = 4 := hw.symm.trans z
        subst ew
        exact ip_tail_4 hI hN F hr hlocks hP hS hL hH hok hB0 hB h5 h11 h10 h4 hkn hn eg z hv_0 hv_1 hv_3 hv_6 hv_7 hl
    · rw [hk] at hl
      refine ip_kind_2 hI hN F hr hlocks hP hS hL hH hok hB0 hB h5 h11 h10 h4 hkn hn hv_0 hv_1 hv_3 hv_6 hv_7 hk o2.1 (fun w M hv C H locs ls eM hP hS hL hH hv_0 hv_1 hv_3 hv_6 hv_7 hw hl => ?_) (lv_sub hl [0, 1, 2, 3, 4, 5, 6] rfl)
      obtain ⟨-, -, -, -, -, hm7, hm8, hm9, -, -⟩ := ip_facts hok (by omega) h5 h11 h10 h4 hkn hn eg
      rw [eM] at hm7 hm8 hm9
      rw [← hm7] at hv_1; rw [← hm9] at hv_3; rw [← hm8] at hl
      rcases hw_in f k with z | z | z | z | z
      · have ew : w = 0 := hw.symm.trans z
        subst ew
        exact ip_tail_0 hI hN F hr hlocks hP hS hL hH hok hB0 hB h5 h11 h10 h4 hkn hn eg z hv_0 hv_1 hv_3 hv_6 hv_7 hl
      · have ew : w = 1 := hw.symm.trans z
        subst ew
        exact ip_tail_1 hI hN F hr hlocks hP hS hL hH hok hB0 hB h5 h11 h10 h4 hkn hn eg z hv_0 hv_1 hv_3 hv_6 hv_7 hl
      · have ew : w = 2 := hw.symm.trans z
        subst ew
        exact ip_tail_2 hI hN F hr hlocks hP hS hL hH hok hB0 hB h5 h11 h10 h4 hkn hn eg z hv_0 hv_1 hv_3 hv_6 hv_7 hl
      · have ew : w = 3 := hw.symm.trans z
        subst ew
        exact ip_tail_3 hI hN F hr hlocks hP hS hL hH hok hB0 hB h5 h11 h10 h4 hkn hn eg z hv_0 hv_1 hv_3 hv_6 hv_7 hl
      · have ew : w = 4 := hw.symm.trans z
        subst ew
        exact ip_tail_4 hI hN F hr hlocks hP hS hL hH hok hB0 hB h5 h11 h10 h4 hkn hn eg z hv_0 hv_1 hv_3 hv_6 hv_7 hl
  · have hi8 : i < 8 := Nat.not_le.mp (fun q => c1 (nI_le (a := 8) q (by omega)))
    refine lv_aload_n F.1 F.2.1 dL_isPart_8 rfl (lv_at hl 1 rfl) ?_
    refine lv_iload_n F.1 F.2.1 dL_isPart_9 rfl (lv_at hl 0 rfl) ?_
    refine lv_aload_n F.1 F.2.1 dL_isPart_10 rfl (lv_at hl 2 rfl) ?_
    refine lv_iload_n F.1 F.2.1 dL_isPart_11 rfl (lv_at hl 0 rfl) ?_
    refine w_calli F hP hS (k_ofHoop l D Y ad N hI hN _ hL (nI i)) (cwVm 1 F.2.2.2.2.1 (fun _ h => h) mw_454 mw_719 mw_452 mw_453 mw_2 rfl rfl ydX7_ofHoop ⟨by decide, by decide⟩) (by omega) (ls_at hL) rfl rfl hl.1 rfl (Nat.le_of_ble_eq_true rfl) dL_isPart_12 ⟨Nat.zero_le _, Nat.zero_le _⟩ (fun r1 C2 H locs hq hP hS => ?_)
    obtain ⟨hw1, hr1⟩ := hq; rw [hw1] at hP
    have hr1 := hr1.trans (oh_i h5 hi8)
    subst hr1
    obtain ⟨hx, ehx⟩ : ∃ z, z = upd hw i (T_about f (nI i)) := ⟨_, rfl⟩
    obtain ⟨K1, eK1⟩ : ∃ z, z = va_up K0 170 (.inl (Y 0, 8, .inl hx)) := ⟨_, rfl⟩
    refine w_iast F hI hP hS (by omega) hH (k := i) rfl hi8 (Nat.le_of_ble_eq_true rfl) (C1 := K1) (fun j => by rw [eK1, ehx]) dL_isPart_15 (fun H locs hP hS => ?_)
    refine lv_iinc (v := (nI i) + 1) (lv' := [(2, .int ((nI i) + 1)), (1, .ref (ad 170)), (0, .ref (ad 0))]) F.1 F.2.1 dL_isPart_16 hl (k := 0) rfl rfl (by decide) rfl (fun ls hl => ?_)
    refine lv_goto (tgt := 2) F.1 F.2.1 dL_isPart_19 (by decide) ?_
    exact ih _ (by omega) _ _ _ _ ⟨i + 1, hx, rfl, hi8, ls_same hL (fun j hj => by rw [eK1]; exact va_up_ne _ _ (by omega)), (by rw [eK1]; exact va_up_self _ _ _), (fun q hq => by rw [ehx]; by_cases z : q = i; (rw [z, upd_s]); (rw [upd_n z]; exact hA q (by omega))), (by rw [nI_succ]; exact lv_sub hl [0, 1, 2] rfl)⟩ hP hS
