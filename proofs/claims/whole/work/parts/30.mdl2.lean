/-! HoopStairsModel: a run and its end -/
/-- the runs from k on have come a place further -/
def L_sh (k : Nat) (r : Nat → Int32) : Nat → Int32 := fun j => if k + 21 < j ∧ j < 61 then r (j - 4) else r j
theorem L_sh_39 (r : Nat → Int32) : L_sh 39 r = r := funext fun j => if_neg (by omega)
theorem L_sh_s {k : Nat} {r : Nat → Int32} (hk : 3 ≤ k) (hk2 : k < 39) : upd (L_sh (k + 1) r) (22 + k) (L_sh (k + 1) r (18 + k)) = L_sh k r := by
  funext j
  by_cases a : j = 22 + k
  · subst a
    rw [upd_s]
    show (if k + 1 + 21 < 18 + k ∧ 18 + k < 61 then r (18 + k - 4) else r (18 + k)) = (if k + 21 < 22 + k ∧ 22 + k < 61 then r (22 + k - 4) else r (22 + k))
    rw [if_neg (by omega), if_pos (by omega), show 22 + k - 4 = 18 + k by omega]
  · rw [upd_n a]
    show (if k + 1 + 21 < j ∧ j < 61 then r (j - 4) else r j) = (if k + 21 < j ∧ j < 61 then r (j - 4) else r j)
    by_cases b : k + 1 + 21 < j ∧ j < 61
    · rw [if_pos b, if_pos (by omega)]
    · rw [if_neg b, if_neg (by omega)]
theorem L_sh_lo {k j : Nat} {r : Nat → Int32} (h : j ≤ k + 21) : L_sh k r j = r j := if_neg (by omega)
theorem lists_is {r : Nat → Int32} {v : Int32} (hv : v = r 20 + (if r 20 < 10 then 1 else 0)) : upd (upd (upd (upd (upd (L_sh 3 r) 21 (r 6)) 22 (r 11)) 23 (r 10)) 24 (r 12)) 20 v = T_lists r := by
  funext j
  unfold T_lists
  by_cases a : j = 20
  · subst a; rw [upd_s, if_pos rfl, hv]
  rw [upd_n a, if_neg a]
  by_cases b4 : j = 24
  · subst b4; rw [upd_s, if_neg (by decide), if_neg (by decide), if_neg (by decide), if_pos rfl]
  rw [upd_n b4]
  by_cases b3 : j = 23
  · subst b3; rw [upd_s, if_neg (by decide), if_neg (by decide), if_pos rfl]
  rw [upd_n b3]
  by_cases b2 : j = 22
  · subst b2; rw [upd_s, if_neg (by decide), if_pos rfl]
  rw [upd_n b2]
  by_cases b1 : j = 21
  · subst b1; rw [upd_s, if_pos rfl]
  rw [upd_n b1, if_neg b1, if_neg b2, if_neg b3, if_neg b4]
  unfold L_sh
  by_cases c : 3 + 21 < j ∧ j < 61
  · rw [if_pos c, if_pos (by omega)]
  · rw [if_neg c, if_neg (by omega)]
set_option maxRecDepth 20000 in
set_option maxHeartbeats 4000000 in
/-- the list of runs -/
theorem c_X8_lists (l : Launch) (D : va_G) (Y : Nat → ClassId) (ad : Nat → Nat) (N : Nat) (hI : wI ad N) (C : Nat → va_E) (o : Nat) (hh : o + 6 ≤ N) (kn n gr : Int32) (P : Nat) (hP0 : P = 0 ∨ P = 161) (r s0 : Nat → Int32) : Met l yX8_lists (wm yX8_lists cX8_lists 3 none) { frames := 0, cells := 0, slots := 0, locals := 0 } (wPc D Y ad N [.ref (ad o), .int (nI P)] (mW Y ad C o kn n gr P r s0)) (wQv D ad N (fun C' => C' = mW Y ad C o kn n gr P (T_lists r) s0)) 0 0 (wA ad N) := by
  refine wMet RX8 rfl (by decide +kernel) (Nat.le_of_ble_eq_true rfl) (lv := [(0, .ref (ad o)), (1, .int (nI P))]) rfl ?_
  intro p e s m below meth c ls F hr hlocks hP hl
  have hS : va_S (wA ad N) s.heap s.heap [] := va_S.rf
  refine lv_bipush (v := 39) F.1 F.2.1 dX8_lists_0 (by decide) ?_
  refine lv_istore_n (lv' := [(2, .int (39)), (0, .ref (ad o)), (1, .int (nI P))]) F.1 F.2.1 dX8_lists_2 rfl hl (by decide) rfl (fun ls hl => ?_)
  refine w_loop (Inv := fun j ls C' => ∃ k : Nat, j = k ∧ 3 ≤ k ∧ k ≤ 39 ∧ lv_has ls 3 [(2, .int (nI k)), (0, .ref (ad o)), (1, .int (nI P))] ∧ C' = mW Y ad C o kn n gr P (L_sh k r) s0) ?_ 39 ⟨39, rfl, by decide, by decide, lv_sub hl [0, 1, 2] rfl, by rw [L_sh_39]⟩ hP hS
  intro j ih H locs ls K0 hInv hP hS
  obtain ⟨k, hj, hk3, hk39, hl, rfl⟩ := hInv
  refine lv_iload_n F.1 F.2.1 dX8_lists_3 rfl (lv_at hl 0 rfl) ?_
  refine lv_iconst (v := 4) F.1 F.2.1 dX8_lists_4 (by decide) ?_
  refine lv_icmp_lt (tgt := 38) F.1 F.2.1 dX8_lists_5 (by decide) (fun c1 => ?_) (fun c1 => ?_)
  · obtain rfl : k = 3 := by have : k < 4 := Nat.lt_of_not_le (fun z => i_nle c1 (nI_le (a := 4) z (by omega))); omega
    refine lv_aload_n F.1 F.2.1 dX8_lists_38 rfl (lv_at hl 1 rfl) ?_
    refine gf_X8_7 F hP (by omega) mW_o (v := .ref (ad (o + 1))) rfl dX8_lists_39 ?_
    refine lv_iload_n F.1 F.2.1 dX8_lists_42 rfl (lv_at hl 2 rfl) ?_
    refine lv_bipush (v := 21) F.1 F.2.1 dX8_lists_43 (by decide) ?_
    refine lv_iadd F.1 F.2.1 dX8_lists_45 ?_
    refine lv_aload_n F.1 F.2.1 dX8_lists_46 rfl (lv_at hl 1 rfl) ?_
    refine gf_X8_7 F hP (by omega) mW_o (v := .ref (ad (o + 1))) rfl dX8_lists_47 ?_
    refine lv_iload_n F.1 F.2.1 dX8_lists_50 rfl (lv_at hl 2 rfl) ?_
    refine lv_bipush (v := 6) F.1 F.2.1 dX8_lists_51 (by decide) ?_
    refine lv_iadd F.1 F.2.1 dX8_lists_53 ?_
    refine w_iald F hP (by omega) mW_s (k := P + 6) (ix_add (X := P) (Y := 6) (Z := P + 6) rfl rfl (by omega)) (by omega) (Nat.le_of_ble_eq_true rfl) (v := r 6) ((put_at (k := 6) (by omega) (by omega)).trans (Eq.trans (show _ = (L_sh 3 r) 6 from rfl) (L_sh_lo (by decide)))) dX8_lists_54 ?_
    refine w_iast F hI hP hS (by omega) mW_s (k := P + 21) (ix_add (X := P) (Y := 21) (Z := P + 21) rfl rfl (by omega)) (by omega) (Nat.le_of_ble_eq_true rfl) (C1 := mW Y ad C o kn n gr P (upd (L_sh 3 r) 21 (r 6)) s0) (fun q => congrFun (mW_upds (k := 21) (by omega) (by omega)) q) dX8_lists_55 (fun H locs hP hS => ?_)
    refine lv_aload_n F.1 F.2.1 dX8_lists_56 rfl (lv_at hl 1 rfl) ?_
    refine gf_X8_7 F hP (by omega) mW_o (v := .ref (ad (o + 1))) rfl dX8_lists_57 ?_
    refine lv_iload_n F.1 F.2.1 dX8_lists_60 rfl (lv_at hl 2 rfl) ?_
    refine lv_bipush (v := 21) F.1 F.2.1 dX8_lists_61 (by decide) ?_
    refine lv_iadd F.1 F.2.1 dX8_lists_63 ?_
    refine lv_iconst (v := 1) F.1 F.2.1 dX8_lists_64 (by decide) ?_
    refine lv_iadd F.1 F.2.1 dX8_lists_65 ?_
    refine lv_aload_n F.1 F.2.1 dX8_lists_66 rfl (lv_at hl 1 rfl) ?_
    refine gf_X8_7 F hP (by omega) mW_o (v := .ref (ad (o + 1))) rfl dX8_lists_67 ?_
    refine lv_iload_n F.1 F.2.1 dX8_lists_70 rfl (lv_at hl 2 rfl) ?_
    refine lv_bipush (v := 11) F.1 F.2.1 dX8_lists_71 (by decide) ?_
    refine lv_iadd F.1 F.2.1 dX8_lists_73 ?_
    refine w_iald F hP (by omega) mW_s (k := P + 11) (ix_add (X := P) (Y := 11) (Z := P + 11) rfl rfl (by omega)) (by omega) (Nat.le_of_ble_eq_true rfl) (v := r 11) ((put_at (k := 11) (by omega) (by omega)).trans (Eq.trans (show _ = (L_sh 3 r) 11 from rfl) (L_sh_lo (by decide)))) dX8_lists_74 ?_
    refine w_iast F hI hP hS (by omega) mW_s (k := P + 21 + 1) (ix_add (X := P + 21) (Y := 1) (Z := P + 21 + 1) (ix_add (X := P) (Y := 21) (Z := P + 21) rfl rfl (by omega)) rfl (by omega)) (by omega) (Nat.le_of_ble_eq_true rfl) (C1 := mW Y ad C o kn n gr P (upd (upd (L_sh 3 r) 21 (r 6)) 22 (r 11)) s0) (fun q => congrFun (mW_upds (k := 22) (by omega) (by omega)) q) dX8_lists_75 (fun H locs hP hS => ?_)
    refine lv_aload_n F.1 F.2.1 dX8_lists_76 rfl (lv_at hl 1 rfl) ?_
    refine gf_X8_7 F hP (by omega) mW_o (v := .ref (ad (o + 1))) rfl dX8_lists_77 ?_
    refine lv_iload_n F.1 F.2.1 dX8_lists_80 rfl (lv_at hl 2 rfl) ?_
    refine lv_bipush (v := 21) F.1 F.2.1 dX8_lists_81 (by decide) ?_
    refine lv_iadd F.1 F.2.1 dX8_lists_83 ?_
    refine lv_iconst (v := 2) F.1 F.2.1 dX8_lists_84 (by decide) ?_
    refine lv_iadd F.1 F.2.1 dX8_lists_85 ?_
    refine lv_aload_n F.1 F.2.1 dX8_lists_86 rfl (lv_at hl 1 rfl) ?_
    refine gf_X8_7 F hP (by omega) mW_o (v := .ref (ad (o + 1))) rfl dX8_lists_87 ?_
    refine lv_iload_n F.1 F.2.1 dX8_lists_90 rfl (lv_at hl 2 rfl) ?_
    refine lv_bipush (v := 10) F.1 F.2.1 dX8_lists_91 (by decide) ?_
    refine lv_iadd F.1 F.2.1 dX8_lists_93 ?_
    refine w_iald F hP (by omega) mW_s (k := P + 10) (ix_add (X := P) (Y := 10) (Z := P + 10) rfl rfl (by omega)) (by omega) (Nat.le_of_ble_eq_true rfl) (v := r 10) ((put_at (k := 10) (by omega) (by omega)).trans (Eq.trans (show _ = (L_sh 3 r) 10 from rfl) (L_sh_lo (by decide)))) dX8_lists_94 ?_
    refine w_iast F hI hP hS (by omega) mW_s (k := P + 21 + 2) (ix_add (X := P + 21) (Y := 2) (Z := P + 21 + 2) (ix_add (X := P) (Y := 21) (Z := P + 21) rfl rfl (by omega)) rfl (by omega)) (by omega) (Nat.le_of_ble_eq_true rfl) (C1 := mW Y ad C o kn n gr P (upd (upd (upd (L_sh 3 r) 21 (r 6)) 22 (r 11)) 23 (r 10)) s0) (fun q => congrFun (mW_upds (k := 23) (by omega) (by omega)) q) dX8_lists_95 (fun H locs hP hS => ?_)
    refine lv_aload_n F.1 F.2.1 dX8_lists_96 rfl (lv_at hl 1 rfl) ?_
    refine gf_X8_7 F hP (by omega) mW_o (v := .ref (ad (o + 1))) rfl dX8_lists_97 ?_
    refine lv_iload_n F.1 F.2.1 dX8_lists_100 rfl (lv_at hl 2 rfl) ?_
    refine lv_bipush (v := 21) F.1 F.2.1 dX8_lists_101 (by decide) ?_
    refine lv_iadd F.1 F.2.1 dX8_lists_103 ?_
    refine lv_iconst (v := 3) F.1 F.2.1 dX8_lists_104 (by decide) ?_
    refine lv_iadd F.1 F.2.1 dX8_lists_105 ?_
    refine lv_aload_n F.1 F.2.1 dX8_lists_106 rfl (lv_at hl 1 rfl) ?_
    refine gf_X8_7 F hP (by omega) mW_o (v := .ref (ad (o + 1))) rfl dX8_lists_107 ?_
    refine lv_iload_n F.1 F.2.1 dX8_lists_110 rfl (lv_at hl 2 rfl) ?_
    refine lv_bipush (v := 12) F.1 F.2.1 dX8_lists_111 (by decide) ?_
    refine lv_iadd F.1 F.2.1 dX8_lists_113 ?_
    refine w_iald F hP (by omega) mW_s (k := P + 12) (ix_add (X := P) (Y := 12) (Z := P + 12) rfl rfl (by omega)) (by omega) (Nat.le_of_ble_eq_true rfl) (v := r 12) ((put_at (k := 12) (by omega) (by omega)).trans (Eq.trans (show _ = (L_sh 3 r) 12 from rfl) (L_sh_lo (by decide)))) dX8_lists_114 ?_
    refine w_iast F hI hP hS (by omega) mW_s (k := P + 21 + 3) (ix_add (X := P + 21) (Y := 3) (Z := P + 21 + 3) (ix_add (X := P) (Y := 21) (Z := P + 21) rfl rfl (by omega)) rfl (by omega)) (by omega) (Nat.le_of_ble_eq_true rfl) (C1 := mW Y ad C o kn n gr P (upd (upd (upd (upd (L_sh 3 r) 21 (r 6)) 22 (r 11)) 23 (r 10)) 24 (r 12)) s0) (fun q => congrFun (mW_upds (k := 24) (by omega) (by omega)) q) dX8_lists_115 (fun H locs hP hS => ?_)
    refine lv_aload_n F.1 F.2.1 dX8_lists_116 rfl (lv_at hl 1 rfl) ?_
    refine gf_X8_7 F hP (by omega) mW_o (v := .ref (ad (o + 1))) rfl dX8_lists_117 ?_
    refine lv_iload_n F.1 F.2.1 dX8_lists_120 rfl (lv_at hl 2 rfl) ?_
    refine lv_bipush (v := 20) F.1 F.2.1 dX8_lists_121 (by decide) ?_
    refine lv_iadd F.1 F.2.1 dX8_lists_123 ?_
    refine lv_dup2_11 F.1 F.2.1 dX8_lists_124 rfl rfl ?_
    refine w_iald F hP (by omega) mW_s (k := P + 20) (ix_add (X := P) (Y := 20) (Z := P + 20) rfl rfl (by omega)) (by omega) (Nat.le_of_ble_eq_true rfl) (v := r 20) ((put_at (k := 20) (by omega) (by omega)).trans (Eq.trans (show _ = (L_sh 3 r) 20 from rfl) (L_sh_lo (by decide)))) dX8_lists_125 ?_
    refine lv_aload_n F.1 F.2.1 dX8_lists_126 rfl (lv_at hl 1 rfl) ?_
    refine gf_X8_7 F hP (by omega) mW_o (v := .ref (ad (o + 1))) rfl dX8_lists_127 ?_
    refine lv_iload_n F.1 F.2.1 dX8_lists_130 rfl (lv_at hl 2 rfl) ?_
    refine lv_bipush (v := 20) F.1 F.2.1 dX8_lists_131 (by decide) ?_
    refine lv_iadd F.1 F.2.1 dX8_lists_133 ?_
    refine w_iald F hP (by omega) mW_s (k := P + 20) (ix_add (X := P) (Y := 20) (Z := P + 20) rfl rfl (by omega)) (by omega) (Nat.le_of_ble_eq_true rfl) (v := r 20) ((put_at (k := 20) (by omega) (by omega)).trans (Eq.trans (show _ = (L_sh 3 r) 20 from rfl) (L_sh_lo (by decide)))) dX8_lists_134 ?_
    refine lv_bipush (v := 10) F.1 F.2.1 dX8_lists_135 (by decide) ?_
    refine lv_icmp_ge (tgt := 144) F.1 F.2.1 dX8_lists_137 (by decide) (fun c2 => ?_) (fun c2 => ?_)
    · refine lv_iconst (v := 0) F.1 F.2.1 dX8_lists_144 (by decide) ?_
      refine lv_iadd F.1 F.2.1 dX8_lists_145 ?_
      refine lv_topi (fun v3 ev3 => ?_)
      refine w_iast F hI hP hS (by omega) mW_s (k := P + 20) (ix_add (X := P) (Y := 20) (Z := P + 20) rfl rfl (by omega)) (by omega) (Nat.le_of_ble_eq_true rfl) (C1 := mW Y ad C o kn n gr P (upd (upd (upd (upd (upd (L_sh 3 r) 21 (r 6)) 22 (r 11)) 23 (r 10)) 24 (r 12)) 20 v3) s0) (fun q => congrFun (mW_upds (k := 20) (by omega) (by omega)) q) dX8_lists_146 (fun H locs hP hS => ?_)
      exact w_vret F hr hlocks hP hS dX8_lists_147 (by rw [← lists_is (v := v3) (by rw [if_neg (i_nlt c2)]; exact ev3)])
    · refine lv_iconst (v := 1) F.1 F.2.1 dX8_lists_140 (by decide) ?_
      refine lv_goto (tgt := 145) F.1 F.2.1 dX8_lists_141 (by decide) ?_
      refine lv_iadd F.1 F.2.1 dX8_lists_145 ?_
      refine lv_topi (fun v4 ev4 => ?_)
      refine w_iast F hI hP hS (by omega) mW_s (k := P + 20) (ix_add (X := P) (Y := 20) (Z := P + 20) rfl rfl (by omega)) (by omega) (Nat.le_of_ble_eq_true rfl) (C1 := mW Y ad C o kn n gr P (upd (upd (upd (upd (upd (L_sh 3 r) 21 (r 6)) 22 (r 11)) 23 (r 10)) 24 (r 12)) 20 v4) s0) (fun q => congrFun (mW_upds (k := 20) (by omega) (by omega)) q) dX8_lists_146 (fun H locs hP hS => ?_)
      exact w_vret F hr hlocks hP hS dX8_lists_147 (by rw [← lists_is (v := v4) (by rw [if_pos (i_lt c2)]; exact ev4)])
  · obtain ⟨k, rfl⟩ : ∃ q, k = q + 1 := ⟨k - 1, by omega⟩
    have hk4 : 3 ≤ k := by have : 4 ≤ k + 1 := Nat.le_of_not_lt (fun z => c1 (nI_lt (b := 4) z (by decide))); omega
    refine lv_aload_n F.1 F.2.1 dX8_lists_8 rfl (lv_at hl 1 rfl) ?_
    refine gf_X8_7 F hP (by omega) mW_o (v := .ref (ad (o + 1))) rfl dX8_lists_9 ?_
    refine lv_iload_n F.1 F.2.1 dX8_lists_12 rfl (lv_at hl 2 rfl) ?_
    refine lv_bipush (v := 21) F.1 F.2.1 dX8_lists_13 (by decide) ?_
    refine lv_iadd F.1 F.2.1 dX8_lists_15 ?_
    refine lv_iload_n F.1 F.2.1 dX8_lists_16 rfl (lv_at hl 0 rfl) ?_
    refine lv_iadd F.1 F.2.1 dX8_lists_17 ?_
    refine lv_aload_n F.1 F.2.1 dX8_lists_18 rfl (lv_at hl 1 rfl) ?_
    refine gf_X8_7 F hP (by omega) mW_o (v := .ref (ad (o + 1))) rfl dX8_lists_19 ?_
    refine lv_iload_n F.1 F.2.1 dX8_lists_22 rfl (lv_at hl 2 rfl) ?_
    refine lv_bipush (v := 21) F.1 F.2.1 dX8_lists_23 (by decide) ?_
    refine lv_iadd F.1 F.2.1 dX8_lists_25 ?_
    refine lv_iload_n F.1 F.2.1 dX8_lists_26 rfl (lv_at hl 0 rfl) ?_
    refine lv_iadd F.1 F.2.1 dX8_lists_27 ?_
    refine lv_iconst (v := 4) F.1 F.2.1 dX8_lists_28 (by decide) ?_
    refine lv_isub F.1 F.2.1 dX8_lists_29 ?_
    refine w_iald F hP (by omega) mW_s (k := P + k + 18) (ix_sub (X := P + 21 + k + 1) (c := 4) (Z := P + k + 18) (ix_add (X := P + 21) (Y := k + 1) (Z := P + 21 + k + 1) (ix_add (X := P) (Y := 21) (Z := P + 21) rfl rfl (by omega)) rfl (by omega)) (by omega)) (by omega) (Nat.le_of_ble_eq_true rfl) (v := (L_sh (k + 1) r) (18 + k)) (put_at (k := (18 + k)) (by omega) (by omega)) dX8_lists_30 ?_
    refine lv_topi (fun v5 ev5 => ?_)
    refine w_iast F hI hP hS (by omega) mW_s (k := P + 21 + k + 1) (ix_add (X := P + 21) (Y := k + 1) (Z := P + 21 + k + 1) (ix_add (X := P) (Y := 21) (Z := P + 21) rfl rfl (by omega)) rfl (by omega)) (by omega) (Nat.le_of_ble_eq_true rfl) (C1 := mW Y ad C o kn n gr P (upd (L_sh (k + 1) r) (22 + k) v5) s0) (fun q => congrFun (mW_upds (k := (22 + k)) (by omega) (by omega)) q) dX8_lists_31 (fun H locs hP hS => ?_)
    refine lv_iinc (v := (nI (k + 1)) + (-1)) (lv' := [(2, .int ((nI (k + 1)) + (-1))), (0, .ref (ad o)), (1, .int (nI P))]) F.1 F.2.1 dX8_lists_32 hl (k := 0) rfl rfl (by decide) rfl (fun ls hl => ?_)
    refine lv_goto (tgt := 3) F.1 F.2.1 dX8_lists_35 (by decide) ?_
    have hR : upd (L_sh (k + 1) r) (22 + k) v5 = L_sh k r := by rw [show 22 + k = 22 + k by omega]; rw [show v5 = L_sh (k + 1) r (18 + k) from ev5.trans (congrArg (L_sh (k + 1) r) (by omega))]; exact L_sh_s hk4 (by omega)
    exact ih _ (by omega) _ _ _ _ ⟨k, rfl, hk4, by omega, (by rw [← nI_dec k]; exact lv_sub hl [0, 1, 2] rfl), by rw [hR]⟩ hP hS
set_option maxRecDepth 20000 in
set_option maxHeartbeats 4000000 in
/-- a run is over -/
theorem c_X8_ends_a (l : Launch) (D : va_G) (Y : Nat → ClassId) (ad : Nat → Nat) (N : Nat) (hI : wI ad N) (C : Nat → va_E) (o : Nat) (hh : o + 6 ≤ N) (kn n gr : Int32) (P : Nat) (hP0 : P = 0 ∨ P = 161) (r s0 : Nat → Int32) (k w : Nat) (hk : k < 20) (hk10 : r 10 = nI k) (hw1 : 1 ≤ w) (hw3 : w ≤ 3) : Met l yX8_ends (wm yX8_ends cX8_ends 3 none) { frames := 1, cells := 0, slots := 0, locals := 22 } (wPc D Y ad N [.ref (ad o), .int (nI P), .int (nI w)] (mW Y ad C o kn n gr P r s0)) (wQv D ad N (fun C' => C' = mW Y ad C o kn n gr P (T_ends (upd r 11 (nI w))) s0)) 0 0 (wA ad N) := by
  refine wMet RX8 rfl (by decide +kernel) (Nat.le_of_ble_eq_true rfl) (lv := [(0, .ref (ad o)), (1, .int (nI P)), (2, .int (nI w))]) rfl ?_
  intro p e s m below meth c ls F hr hlocks hP hl
  have hS : va_S (wA ad N) s.heap s.heap [] := va_S.rf
  refine lv_aload_n F.1 F.2.1 dX8_ends_0 rfl (lv_at hl 0 rfl) ?_
  refine gf_X8_7 F hP (by omega) mW_o (v := .ref (ad (o + 1))) rfl dX8_ends_1 ?_
  refine lv_iload_n F.1 F.2.1 dX8_ends_4 rfl (lv_at hl 1 rfl) ?_
  refine lv_bipush (v := 11) F.1 F.2.1 dX8_ends_5 (by decide) ?_
  refine lv_iadd F.1 F.2.1 dX8_ends_7 ?_
  refine lv_iload_n F.1 F.2.1 dX8_ends_8 rfl (lv_at hl 2 rfl) ?_
  refine w_iast F hI hP hS (by omega) mW_s (k := P + 11) (ix_add (X := P) (Y := 11) (Z := P + 11) rfl rfl (by omega)) (by omega) (Nat.le_of_ble_eq_true rfl) (C1 := mW Y ad C o kn n gr P (upd r 11 (nI w)) s0) (fun q => congrFun (mW_upds (k := 11) (by omega) (by omega)) q) dX8_ends_9 (fun H locs hP hS => ?_)
  refine lv_aload_n F.1 F.2.1 dX8_ends_10 rfl (lv_at hl 0 rfl) ?_
  refine gf_X8_7 F hP (by omega) mW_o (v := .ref (ad (o + 1))) rfl dX8_ends_11 ?_
  refine lv_iload_n F.1 F.2.1 dX8_ends_14 rfl (lv_at hl 1 rfl) ?_
  refine lv_bipush (v := 15) F.1 F.2.1 dX8_ends_15 (by decide) ?_
  refine lv_iadd F.1 F.2.1 dX8_ends_17 ?_
  refine lv_iload_n F.1 F.2.1 dX8_ends_18 rfl (lv_at hl 2 rfl) ?_
  refine lv_iadd F.1 F.2.1 dX8_ends_19 ?_
  refine lv_iconst (v := 1) F.1 F.2.1 dX8_ends_20 (by decide) ?_
  refine lv_isub F.1 F.2.1 dX8_ends_21 ?_
  refine lv_dup2_11 F.1 F.2.1 dX8_ends_22 rfl rfl ?_
  refine w_iald F hP (by omega) mW_s (k := P + w + 14) (ix_sub (X := P + 15 + w) (c := 1) (Z := P + w + 14) (ix_add (X := P + 15) (Y := w) (Z := P + 15 + w) (ix_add (X := P) (Y := 15) (Z := P + 15) rfl rfl (by omega)) rfl (by omega)) (by omega)) (by omega) (Nat.le_of_ble_eq_true rfl) (v := (upd r 11 (nI w)) (14 + w)) (put_at (k := (14 + w)) (by omega) (by omega)) dX8_ends_23 ?_
  refine lv_iconst (v := 1) F.1 F.2.1 dX8_ends_24 (by decide) ?_
  refine lv_iadd F.1 F.2.1 dX8_ends_25 ?_
  refine lv_topi (fun v1 ev1 => ?_)
  refine w_iast F hI hP hS (by omega) mW_s (k := P + w + 14) (ix_sub (X := P + 15 + w) (c := 1) (Z := P + w + 14) (ix_add (X := P + 15) (Y := w) (Z := P + 15 + w) (ix_add (X := P) (Y := 15) (Z := P + 15) rfl rfl (by omega)) rfl (by omega)) (by omega)) (by omega) (Nat.le_of_ble_eq_true rfl) (C1 := mW Y ad C o kn n gr P (upd (upd r 11 (nI w)) (14 + w) v1) s0) (fun q => congrFun (mW_upds (k := (14 + w)) (by omega) (by omega)) q) dX8_ends_26 (fun H locs hP hS => ?_)
  refine lv_iload_n F.1 F.2.1 dX8_ends_27 rfl (lv_at hl 2 rfl) ?_
  refine lv_iconst (v := 4) F.1 F.2.1 dX8_ends_28 (by decide) ?_
  refine lv_icmp_eq (tgt := 58) F.1 F.2.1 dX8_ends_29 (by decide) (fun c2 => False.elim (absurd ((nI_eq (b := 4) (by omega) (by decide)).mp c2) (by omega))) (fun c2 => ?_)
  refine lv_aload_n F.1 F.2.1 dX8_ends_32 rfl (lv_at hl 0 rfl) ?_
  refine gf_X8_7 F hP (by omega) mW_o (v := .ref (ad (o + 1))) rfl dX8_ends_33 ?_
  refine lv_iload_n F.1 F.2.1 dX8_ends_36 rfl (lv_at hl 1 rfl) ?_
  refine lv_aload_n F.1 F.2.1 dX8_ends_37 rfl (lv_at hl 0 rfl) ?_
  refine gf_X8_7 F hP (by omega) mW_o (v := .ref (ad (o + 1))) rfl dX8_ends_38 ?_
  refine lv_iload_n F.1 F.2.1 dX8_ends_41 rfl (lv_at hl 1 rfl) ?_
  refine lv_bipush (v := 10) F.1 F.2.1 dX8_ends_42 (by decide) ?_
  refine lv_iadd F.1 F.2.1 dX8_ends_44 ?_
  refine w_iald F hP (by omega) mW_s (k := P + 10) (ix_add (X := P) (Y := 10) (Z := P + 10) rfl rfl (by omega)) (by omega) (Nat.le_of_ble_eq_true rfl) (v := r 10) ((put_at (k := 10) (by omega) (by omega)).trans (show _ = r 10 from by rw [upd_n (by omega), upd_n (by omega)])) dX8_ends_45 ?_
  refine w_calls F hP hS (c_X8_at l D Y ad N hI _ (nI P) (r 10)) (cwSm 2 F.2.2.2.2.1 (fun _ h => h) mw_226 mw_224 mw_225 mw_5 rfl rfl ydX8_at ⟨by decide, by decide⟩) rfl hl.1 rfl (Nat.le_of_ble_eq_true rfl) dX8_ends_46 ⟨Nat.zero_le _, Nat.zero_le _⟩ (fun rq3 Kq3 H locs hq3 hP hS => ?_)
  obtain ⟨hq3w, hq3r⟩ := hq3; rw [hq3w] at hP
  subst hq3r
  refine lv_iconst (v := 1) F.1 F.2.1 dX8_ends_49 (by decide) ?_
  refine lv_iadd F.1 F.2.1 dX8_ends_50 ?_
  refine lv_iload_n F.1 F.2.1 dX8_ends_51 rfl (lv_at hl 2 rfl) ?_
  refine lv_iadd F.1 F.2.1 dX8_ends_52 ?_
  refine lv_dup2_11 F.1 F.2.1 dX8_ends_53 rfl rfl ?_
  refine w_iald F hP (by omega) mW_s (k := P + 61 + 5 * k + 1 + w) (ix_add (X := P + 61 + 5 * k + 1) (Y := w) (Z := P + 61 + 5 * k + 1 + w) (ix_add (X := P + 61 + 5 * k) (Y := 1) (Z := P + 61 + 5 * k + 1) (ix_add (X := P + 61) (Y := 5 * k) (Z := P + 61 + 5 * k) (ix_add (X := P) (Y := 61) (Z := P + 61) rfl rfl (by omega)) (ix_mul (X := 5) (Y := k) rfl hk10) (by omega)) rfl (by omega)) rfl (by omega)) (by omega) (Nat.le_of_ble_eq_true rfl) (v := (upd (upd r 11 (nI w)) (14 + w) v1) (62 + 5 * k + w)) (put_at (k := (62 + 5 * k + w)) (by omega) (by omega)) dX8_ends_54 ?_
  refine lv_iconst (v := 1) F.1 F.2.1 dX8_ends_55 (by decide) ?_
  refine lv_iadd F.1 F.2.1 dX8_ends_56 ?_
  refine lv_topi (fun v4 ev4 => ?_)
  refine w_iast F hI hP hS (by omega) mW_s (k := P + 61 + 5 * k + 1 + w) (ix_add (X := P + 61 + 5 * k + 1) (Y := w) (Z := P + 61 + 5 * k + 1 + w) (ix_add (X := P + 61 + 5 * k) (Y := 1) (Z := P + 61 + 5 * k + 1) (ix_add (X := P + 61) (Y := 5 * k) (Z := P + 61 + 5 * k) (ix_add (X := P) (Y := 61) (Z := P + 61) rfl rfl (by omega)) (ix_mul (X := 5) (Y := k) rfl hk10) (by omega)) rfl (by omega)) rfl (by omega)) (by omega) (Nat.le_of_ble_eq_true rfl) (C1 := mW Y ad C o kn n gr P (upd (upd (upd r 11 (nI w)) (14 + w) v1) (62 + 5 * k + w) v4) s0) (fun q => congrFun (mW_upds (k := (62 + 5 * k + w)) (by omega) (by omega)) q) dX8_ends_57 (fun H locs hP hS => ?_)
  refine lv_aload_n F.1 F.2.1 dX8_ends_58 rfl (lv_at hl 0 rfl) ?_
  refine lv_iload_n F.1 F.2.1 dX8_ends_59 rfl (lv_at hl 1 rfl) ?_
  refine w_callv F hP hS (c_X8_lists l D Y ad N hI C o hh kn n gr P hP0 (upd (upd (upd r 11 (nI w)) (14 + w) v1) (62 + 5 * k + w) v4) s0) (cwVm 1 F.2.2.2.2.1 (fun _ h => h) mw_392 mw_389 mw_390 mw_391 mw_5 rfl rfl ydX8_lists ⟨by decide, by decide⟩) (by omega) mW_o rfl rfl hl.1 rfl (Nat.le_of_ble_eq_true rfl) dX8_ends_60 ⟨Nat.zero_le _, Nat.zero_le _⟩ (fun Kq5 H locs hq5 hP hS => ?_)
  subst hq5
  exact w_vret F hr hlocks hP hS dX8_ends_63 (by rw [ends_a (f := upd r 11 (nI w)) (k := k) (we := w) (by rw [upd_n (by decide)]; exact hk10) upd_s hk hw1 hw3, ← ev1, upd_n (show 62 + 5 * k + w ≠ 11 by omega), show r (62 + 5 * k + w) + 1 = v4 from by rw [ev4, upd_n (by omega), upd_n (by omega)]])
set_option maxRecDepth 20000 in
set_option maxHeartbeats 4000000 in
/-- a run is over -/
theorem c_X8_ends_p (l : Launch) (D : va_G) (Y : Nat → ClassId) (ad : Nat → Nat) (N : Nat) (hI : wI ad N) (C : Nat → va_E) (o : Nat) (hh : o + 6 ≤ N) (kn n gr : Int32) (P : Nat) (hP0 : P = 0 ∨ P = 161) (r s0 : Nat → Int32) : Met l yX8_ends (wm yX8_ends cX8_ends 3 none) { frames := 1, cells := 0, slots := 0, locals := 22 } (wPc D Y ad N [.ref (ad o), .int (nI P), .int (4)] (mW Y ad C o kn n gr P r s0)) (wQv D ad N (fun C' => C' = mW Y ad C o kn n gr P (T_ends (upd r 11 4)) s0)) 0 0 (wA ad N) := by
  refine wMet RX8 rfl (by decide +kernel) (Nat.le_of_ble_eq_true rfl) (lv := [(0, .ref (ad o)), (1, .int (nI P)), (2, .int (4))]) rfl ?_
  intro p e s m below meth c ls F hr hlocks hP hl
  have hS : va_S (wA ad N) s.heap s.heap [] := va_S.rf
  refine lv_aload_n F.1 F.2.1 dX8_ends_0 rfl (lv_at hl 0 rfl) ?_
  refine gf_X8_7 F hP (by omega) mW_o (v := .ref (ad (o + 1))) rfl dX8_ends_1 ?_
  refine lv_iload_n F.1 F.2.1 dX8_ends_4 rfl (lv_at hl 1 rfl) ?_
  refine lv_bipush (v := 11) F.1 F.2.1 dX8_ends_5 (by decide) ?_
  refine lv_iadd F.1 F.2.1 dX8_ends_7 ?_
  refine lv_iload_n F.1 F.2.1 dX8_ends_8 rfl (lv_at hl 2 rfl) ?_
  refine w_iast F hI hP hS (by omega) mW_s (k := P + 11) (ix_add (X := P) (Y := 11) (Z := P + 11) rfl rfl (by omega)) (by omega) (Nat.le_of_ble_eq_true rfl) (C1 := mW Y ad C o kn n gr P (upd r 11 4) s0) (fun q => congrFun (mW_upds (k := 11) (by omega) (by omega)) q) dX8_ends_9 (fun H locs hP hS => ?_)
  refine lv_aload_n F.1 F.2.1 dX8_ends_10 rfl (lv_at hl 0 rfl) ?_
  refine gf_X8_7 F hP (by omega) mW_o (v := .ref (ad (o + 1))) rfl dX8_ends_11 ?_
  refine lv_iload_n F.1 F.2.1 dX8_ends_14 rfl (lv_at hl 1 rfl) ?_
  refine lv_bipush (v := 15) F.1 F.2.1 dX8_ends_15 (by decide) ?_
  refine lv_iadd F.1 F.2.1 dX8_ends_17 ?_
  refine lv_iload_n F.1 F.2.1 dX8_ends_18 rfl (lv_at hl 2 rfl) ?_
  refine lv_iadd F.1 F.2.1 dX8_ends_19 ?_
  refine lv_iconst (v := 1) F.1 F.2.1 dX8_ends_20 (by decide) ?_
  refine lv_isub F.1 F.2.1 dX8_ends_21 ?_
  refine lv_dup2_11 F.1 F.2.1 dX8_ends_22 rfl rfl ?_
  refine w_iald F hP (by omega) mW_s (k := P + 18) (ix_sub (X := P + 15 + 4) (c := 1) (Z := P + 18) (ix_add (X := P + 15) (Y := 4) (Z := P + 15 + 4) (ix_add (X := P) (Y := 15) (Z := P + 15) rfl rfl (by omega)) rfl (by omega)) (by omega)) (by omega) (Nat.le_of_ble_eq_true rfl) (v := r 18) (put_at (k := 18) (by omega) (by omega)) dX8_ends_23 ?_
  refine lv_iconst (v := 1) F.1 F.2.1 dX8_ends_24 (by decide) ?_
  refine lv_iadd F.1 F.2.1 dX8_ends_25 ?_
  refine lv_topi (fun v1 ev1 => ?_)
  refine w_iast F hI hP hS (by omega) mW_s (k := P + 18) (ix_sub (X := P + 15 + 4) (c := 1) (Z := P + 18) (ix_add (X := P + 15) (Y := 4) (Z := P + 15 + 4) (ix_add (X := P) (Y := 15) (Z := P + 15) rfl rfl (by omega)) rfl (by omega)) (by omega)) (by omega) (Nat.le_of_ble_eq_true rfl) (C1 := mW Y ad C o kn n gr P (upd (upd r 11 4) 18 v1) s0) (fun q => congrFun (mW_upds (k := 18) (by omega) (by omega)) q) dX8_ends_26 (fun H locs hP hS => ?_)
  refine lv_iload_n F.1 F.2.1 dX8_ends_27 rfl (lv_at hl 2 rfl) ?_
  refine lv_iconst (v := 4) F.1 F.2.1 dX8_ends_28 (by decide) ?_
  refine lv_icmp_eq (tgt := 58) F.1 F.2.1 dX8_ends_29 (by decide) (fun c2 => ?_) (fun c2 => False.elim (by revert c2; decide))
  refine lv_aload_n F.1 F.2.1 dX8_ends_58 rfl (lv_at hl 0 rfl) ?_
  refine lv_iload_n F.1 F.2.1 dX8_ends_59 rfl (lv_at hl 1 rfl) ?_
  refine w_callv F hP hS (c_X8_lists l D Y ad N hI C o hh kn n gr P hP0 (upd (upd r 11 4) 18 v1) s0) (cwVm 1 F.2.2.2.2.1 (fun _ h => h) mw_392 mw_389 mw_390 mw_391 mw_5 rfl rfl ydX8_lists ⟨by decide, by decide⟩) (by omega) mW_o rfl rfl hl.1 rfl (Nat.le_of_ble_eq_true rfl) dX8_ends_60 ⟨Nat.zero_le _, Nat.zero_le _⟩ (fun Kq3 H locs hq3 hP hS => ?_)
  subst hq3
  exact w_vret F hr hlocks hP hS dX8_ends_63 (by rw [ends_p (f := upd r 11 4) upd_s, upd_n (show (18 : Nat) ≠ 11 by decide), ← ev1])
