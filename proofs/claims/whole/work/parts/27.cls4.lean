/-! HoopStairs: carry out -/
set_option maxRecDepth 20000 in
set_option maxHeartbeats 4000000 in
/-- may an order be carried out -/
theorem c_X7_orderError (l : Launch) (D : va_G) (Y : Nat → ClassId) (ad : Nat → Nat) (N : Nat) (hI : wI ad N) (C : Nat → va_E) (o : Nat) (hh : o + 170 ≤ N) (hob : C o = .inr (7, [.ref (ad (o + 1)), .ref (ad (o + 19)), .ref (ad (o + 129)), .ref (ad (o + 166)), .ref (ad (o + 167)), .ref (ad (o + 169))])) (f : Nat → Int32) (g : Int32) (hnow : isState Y ad C (o + 1) f g) (lt nu : Int32) (B : Int) (hok : okRow B f) (hBb : B + 2000 ≤ 900000000) : Met l yX7_orderError (wm yX7_orderError cX7_orderError 3 (some .int)) { frames := 2, cells := 0, slots := 0, locals := 44 } (wPc D Y ad N [.ref (ad o), .int (lt), .int (nu)] C) (wQi D ad N (fun r C' => C' = C ∧ r = T_err f lt nu)) 0 0 (wA ad N) := by
  refine wMet RX7 rfl (by decide +kernel) (Nat.le_of_ble_eq_true rfl) (lv := [(0, .ref (ad o)), (1, .int (lt)), (2, .int (nu))]) rfl ?_
  intro p e s m below meth c ls F hr hlocks hP hl
  have hS : va_S (wA ad N) s.heap s.heap [] := va_S.rf
  refine lv_iload_n F.1 F.2.1 dX7_orderError_0 rfl (lv_at hl 1 rfl) ?_
  by_cases k1 : lt = 60
  · refine lv_lookup (off := 150) (tgt := 151) F.1 F.2.1 dX7_orderError_1 (by decide) ((by rw [k1]; rfl)) (by decide) ?_
    refine lv_aload_n F.1 F.2.1 dX7_orderError_151 rfl (lv_at hl 0 rfl) ?_
    refine gf_X7_10 F hP (by omega) hob (v := .ref (ad (o + 1))) rfl dX7_orderError_152 ?_
    refine lv_iconst (v := 0) F.1 F.2.1 dX7_orderError_155 (by decide) ?_
    refine w_calli F hP hS (c_X6_tapError l D Y ad N hI _ (o + 1) (by omega) f g hnow 0 hok.2.1) (cwVm 1 F.2.2.2.2.1 (fun _ h => h) mw_400 mw_397 mw_398 mw_399 mw_15 rfl rfl ydX6_tapError ⟨by decide, by decide⟩) (by omega) hnow.1 rfl rfl hl.1 rfl (Nat.le_of_ble_eq_true rfl) dX7_orderError_156 ⟨Nat.zero_le _, Nat.zero_le _⟩ (fun r C2 H locs hq hP hS => ?_)
    obtain ⟨hq1, hq2⟩ := hq; rw [hq1] at hP; subst hq2
    exact w_iret F hr hlocks hP hS dX7_orderError_159 ⟨rfl, by unfold T_err; rw [if_pos k1]; try rfl⟩
  · by_cases k2 : lt = 62
    · refine lv_lookup (off := 159) (tgt := 160) F.1 F.2.1 dX7_orderError_1 (by decide) ((lv_osw k1 rfl).trans ((by rw [k2]; rfl))) (by decide) ?_
      refine lv_aload_n F.1 F.2.1 dX7_orderError_160 rfl (lv_at hl 0 rfl) ?_
      refine gf_X7_10 F hP (by omega) hob (v := .ref (ad (o + 1))) rfl dX7_orderError_161 ?_
      refine lv_iconst (v := 1) F.1 F.2.1 dX7_orderError_164 (by decide) ?_
      refine w_calli F hP hS (c_X6_tapError l D Y ad N hI _ (o + 1) (by omega) f g hnow 1 hok.2.1) (cwVm 1 F.2.2.2.2.1 (fun _ h => h) mw_400 mw_397 mw_398 mw_399 mw_15 rfl rfl ydX6_tapError ⟨by decide, by decide⟩) (by omega) hnow.1 rfl rfl hl.1 rfl (Nat.le_of_ble_eq_true rfl) dX7_orderError_165 ⟨Nat.zero_le _, Nat.zero_le _⟩ (fun r C2 H locs hq hP hS => ?_)
      obtain ⟨hq1, hq2⟩ := hq; rw [hq1] at hP; subst hq2
      exact w_iret F hr hlocks hP hS dX7_orderError_168 ⟨rfl, by unfold T_err; rw [if_neg k1, if_pos k2]; try rfl⟩
    · by_cases k3 : lt = 100
      · refine lv_lookup (off := 67) (tgt := 68) F.1 F.2.1 dX7_orderError_1 (by decide) ((lv_osw k1 rfl).trans ((lv_osw k2 rfl).trans ((by rw [k3]; rfl)))) (by decide) ?_
        refine lv_aload_n F.1 F.2.1 dX7_orderError_68 rfl (lv_at hl 0 rfl) ?_
        refine gf_X7_10 F hP (by omega) hob (v := .ref (ad (o + 1))) rfl dX7_orderError_69 ?_
        refine lv_aload_n F.1 F.2.1 dX7_orderError_72 rfl (lv_at hl 0 rfl) ?_
        refine gf_X7_10 F hP (by omega) hob (v := .ref (ad (o + 1))) rfl dX7_orderError_73 ?_
        refine gf_X7_70 F hP (by omega) hnow.1 (v := .ref (ad ((o + 1) + 3))) rfl dX7_orderError_76 ?_
        refine gf_X7_224 F hP (by omega) hnow.2.2.1.1 (v := .int (f 4)) rfl dX7_orderError_79 ?_
        refine lv_iconst (v := 0) F.1 F.2.1 dX7_orderError_82 (by decide) ?_
        refine lv_iload_n F.1 F.2.1 dX7_orderError_83 rfl (lv_at hl 2 rfl) ?_
        refine w_calli F hP hS (c_X6_partError l D Y ad N hI _ (o + 1) (by omega) f g hnow (f 4) 0 nu) (cwVm 3 F.2.2.2.2.1 (fun _ h => h) mw_196 mw_193 mw_194 mw_195 mw_15 rfl rfl ydX6_partError ⟨by decide, by decide⟩) (by omega) hnow.1 rfl rfl hl.1 rfl (Nat.le_of_ble_eq_true rfl) dX7_orderError_84 ⟨Nat.zero_le _, Nat.zero_le _⟩ (fun r C2 H locs hq hP hS => ?_)
        obtain ⟨hq1, hq2⟩ := hq; rw [hq1] at hP; subst hq2
        exact w_iret F hr hlocks hP hS dX7_orderError_87 ⟨rfl, by unfold T_err; rw [if_neg k1, if_neg k2, if_pos k3]; try rfl⟩
      · by_cases k4 : lt = 103
        · refine lv_lookup (off := 107) (tgt := 108) F.1 F.2.1 dX7_orderError_1 (by decide) ((lv_osw k1 rfl).trans ((lv_osw k2 rfl).trans ((lv_osw k3 rfl).trans ((by rw [k4]; rfl))))) (by decide) ?_
          refine lv_aload_n F.1 F.2.1 dX7_orderError_108 rfl (lv_at hl 0 rfl) ?_
          refine gf_X7_10 F hP (by omega) hob (v := .ref (ad (o + 1))) rfl dX7_orderError_109 ?_
          refine lv_aload_n F.1 F.2.1 dX7_orderError_112 rfl (lv_at hl 0 rfl) ?_
          refine gf_X7_10 F hP (by omega) hob (v := .ref (ad (o + 1))) rfl dX7_orderError_113 ?_
          refine gf_X7_70 F hP (by omega) hnow.1 (v := .ref (ad ((o + 1) + 3))) rfl dX7_orderError_116 ?_
          refine gf_X7_224 F hP (by omega) hnow.2.2.1.1 (v := .int (f 4)) rfl dX7_orderError_119 ?_
          refine lv_iconst (v := 2) F.1 F.2.1 dX7_orderError_122 (by decide) ?_
          refine lv_iload_n F.1 F.2.1 dX7_orderError_123 rfl (lv_at hl 2 rfl) ?_
          refine w_calli F hP hS (c_X6_partError l D Y ad N hI _ (o + 1) (by omega) f g hnow (f 4) 2 nu) (cwVm 3 F.2.2.2.2.1 (fun _ h => h) mw_196 mw_193 mw_194 mw_195 mw_15 rfl rfl ydX6_partError ⟨by decide, by decide⟩) (by omega) hnow.1 rfl rfl hl.1 rfl (Nat.le_of_ble_eq_true rfl) dX7_orderError_124 ⟨Nat.zero_le _, Nat.zero_le _⟩ (fun r C2 H locs hq hP hS => ?_)
          obtain ⟨hq1, hq2⟩ := hq; rw [hq1] at hP; subst hq2
          exact w_iret F hr hlocks hP hS dX7_orderError_127 ⟨rfl, by unfold T_err; rw [if_neg k1, if_neg k2, if_neg k3, if_pos k4]; try rfl⟩
        · by_cases k5 : lt = 104
          · refine lv_lookup (off := 127) (tgt := 128) F.1 F.2.1 dX7_orderError_1 (by decide) ((lv_osw k1 rfl).trans ((lv_osw k2 rfl).trans ((lv_osw k3 rfl).trans ((lv_osw k4 rfl).trans ((by rw [k5]; rfl)))))) (by decide) ?_
            refine lv_iload_n F.1 F.2.1 dX7_orderError_128 rfl (lv_at hl 2 rfl) ?_
            refine w_calls F hP hS (c_X1_allows l D Y ad N hI _ nu) (cwSm 1 F.2.2.2.2.1 (fun _ h => h) mw_258 mw_256 mw_257 mw_30 rfl rfl ydX1_allows ⟨by decide, by decide⟩) rfl hl.1 rfl (Nat.le_of_ble_eq_true rfl) dX7_orderError_129 ⟨Nat.zero_le _, Nat.zero_le _⟩ (fun r C2 H locs hq hP hS => ?_)
            obtain ⟨hq1, hbrr6⟩ := hq; rw [hq1] at hP; generalize r = rr6 at hbrr6 ⊢
            refine lv_if_eq (tgt := 139) F.1 F.2.1 dX7_orderError_132 (by decide) (fun c7 => ?_) (fun c7 => ?_)
            · refine lv_bipush (v := (-2)) F.1 F.2.1 dX7_orderError_139 (by decide) ?_
              exact w_iret F hr hlocks hP hS dX7_orderError_141 ⟨rfl, by unfold T_err; rw [if_neg k1, if_neg k2, if_neg k3, if_neg k4, if_pos k5, if_neg (b_f hbrr6 c7)]; try rfl⟩
            · refine lv_iconst (v := 0) F.1 F.2.1 dX7_orderError_135 (by decide) ?_
              refine lv_goto (tgt := 141) F.1 F.2.1 dX7_orderError_136 (by decide) ?_
              exact w_iret F hr hlocks hP hS dX7_orderError_141 ⟨rfl, by unfold T_err; rw [if_neg k1, if_neg k2, if_neg k3, if_neg k4, if_pos k5, if_pos (b_t hbrr6 c7)]; try rfl⟩
          · by_cases k8 : lt = 108
            · refine lv_lookup (off := 87) (tgt := 88) F.1 F.2.1 dX7_orderError_1 (by decide) ((lv_osw k1 rfl).trans ((lv_osw k2 rfl).trans ((lv_osw k3 rfl).trans ((lv_osw k4 rfl).trans ((lv_osw k5 rfl).trans ((by rw [k8]; rfl))))))) (by decide) ?_
              refine lv_aload_n F.1 F.2.1 dX7_orderError_88 rfl (lv_at hl 0 rfl) ?_
              refine gf_X7_10 F hP (by omega) hob (v := .ref (ad (o + 1))) rfl dX7_orderError_89 ?_
              refine lv_aload_n F.1 F.2.1 dX7_orderError_92 rfl (lv_at hl 0 rfl) ?_
              refine gf_X7_10 F hP (by omega) hob (v := .ref (ad (o + 1))) rfl dX7_orderError_93 ?_
              refine gf_X7_70 F hP (by omega) hnow.1 (v := .ref (ad ((o + 1) + 3))) rfl dX7_orderError_96 ?_
              refine gf_X7_224 F hP (by omega) hnow.2.2.1.1 (v := .int (f 4)) rfl dX7_orderError_99 ?_
              refine lv_iconst (v := 1) F.1 F.2.1 dX7_orderError_102 (by decide) ?_
              refine lv_iload_n F.1 F.2.1 dX7_orderError_103 rfl (lv_at hl 2 rfl) ?_
              refine w_calli F hP hS (c_X6_partError l D Y ad N hI _ (o + 1) (by omega) f g hnow (f 4) 1 nu) (cwVm 3 F.2.2.2.2.1 (fun _ h => h) mw_196 mw_193 mw_194 mw_195 mw_15 rfl rfl ydX6_partError ⟨by decide, by decide⟩) (by omega) hnow.1 rfl rfl hl.1 rfl (Nat.le_of_ble_eq_true rfl) dX7_orderError_104 ⟨Nat.zero_le _, Nat.zero_le _⟩ (fun r C2 H locs hq hP hS => ?_)
              obtain ⟨hq1, hq2⟩ := hq; rw [hq1] at hP; subst hq2
              exact w_iret F hr hlocks hP hS dX7_orderError_107 ⟨rfl, by unfold T_err; rw [if_neg k1, if_neg k2, if_neg k3, if_neg k4, if_neg k5, if_pos k8]; try rfl⟩
            · by_cases k9 : lt = 114
              · refine lv_lookup (off := 141) (tgt := 142) F.1 F.2.1 dX7_orderError_1 (by decide) ((lv_osw k1 rfl).trans ((lv_osw k2 rfl).trans ((lv_osw k3 rfl).trans ((lv_osw k4 rfl).trans ((lv_osw k5 rfl).trans ((lv_osw k8 rfl).trans ((by rw [k9]; rfl)))))))) (by decide) ?_
                refine lv_aload_n F.1 F.2.1 dX7_orderError_142 rfl (lv_at hl 0 rfl) ?_
                refine gf_X7_10 F hP (by omega) hob (v := .ref (ad (o + 1))) rfl dX7_orderError_143 ?_
                refine lv_iload_n F.1 F.2.1 dX7_orderError_146 rfl (lv_at hl 2 rfl) ?_
                refine w_calli F hP hS (c_X6_rollError l D Y ad N hI _ (o + 1) (by omega) f g hnow nu hok.2.1) (cwVm 1 F.2.2.2.2.1 (fun _ h => h) mw_282 mw_279 mw_280 mw_281 mw_15 rfl rfl ydX6_rollError ⟨by decide, by decide⟩) (by omega) hnow.1 rfl rfl hl.1 rfl (Nat.le_of_ble_eq_true rfl) dX7_orderError_147 ⟨Nat.zero_le _, Nat.zero_le _⟩ (fun r C2 H locs hq hP hS => ?_)
                obtain ⟨hq1, hq2⟩ := hq; rw [hq1] at hP; subst hq2
                exact w_iret F hr hlocks hP hS dX7_orderError_150 ⟨rfl, by unfold T_err; rw [if_neg k1, if_neg k2, if_neg k3, if_neg k4, if_neg k5, if_neg k8, if_pos k9]; try rfl⟩
              · refine lv_lookup (off := 168) (tgt := 169) F.1 F.2.1 dX7_orderError_1 (by decide) ((lv_osw k1 rfl).trans ((lv_osw k2 rfl).trans ((lv_osw k3 rfl).trans ((lv_osw k4 rfl).trans ((lv_osw k5 rfl).trans ((lv_osw k8 rfl).trans ((lv_osw k9 rfl).trans (rfl)))))))) (by decide) ?_
                refine lv_aload_n F.1 F.2.1 dX7_orderError_169 rfl (lv_at hl 0 rfl) ?_
                refine gf_X7_10 F hP (by omega) hob (v := .ref (ad (o + 1))) rfl dX7_orderError_170 ?_
                refine w_calli F hP hS (c_X6_pushError l D Y ad N hI _ (o + 1) (by omega) f g hnow hok.2.1) (cwVm 0 F.2.2.2.2.1 (fun _ h => h) mw_425 mw_422 mw_423 mw_424 mw_15 rfl rfl ydX6_pushError ⟨by decide, by decide⟩) (by omega) hnow.1 rfl rfl hl.1 rfl (Nat.le_of_ble_eq_true rfl) dX7_orderError_173 ⟨Nat.zero_le _, Nat.zero_le _⟩ (fun r C2 H locs hq hP hS => ?_)
                obtain ⟨hq1, hq2⟩ := hq; rw [hq1] at hP; subst hq2
                exact w_iret F hr hlocks hP hS dX7_orderError_176 ⟨rfl, by unfold T_err; rw [if_neg k1, if_neg k2, if_neg k3, if_neg k4, if_neg k5, if_neg k8, if_neg k9]; try rfl⟩
set_option maxRecDepth 20000 in
set_option maxHeartbeats 4000000 in
/-- an order carried out -/
theorem c_X7_carryOrder (l : Launch) (D : va_G) (Y : Nat → ClassId) (ad : Nat → Nat) (N : Nat) (hI : wI ad N) (C : Nat → va_E) (o : Nat) (hh : o + 170 ≤ N) (hob : C o = .inr (7, [.ref (ad (o + 1)), .ref (ad (o + 19)), .ref (ad (o + 129)), .ref (ad (o + 166)), .ref (ad (o + 167)), .ref (ad (o + 169))])) (f : Nat → Int32) (g : Int32) (hnow : isState Y ad C (o + 1) f g) (lt nu : Int32) (he : T_err f lt nu = 0) (B : Int) (hok : okRow B f) (hBb : B + 2000 ≤ 900000000) : Met l yX7_carryOrder (wm yX7_carryOrder cX7_carryOrder 3 (some .int)) { frames := 6, cells := 0, slots := 0, locals := 129 } (wPc D Y ad N [.ref (ad o), .int (lt), .int (nu)] C) (wQi D ad N (fun r C' => ∃ g', isState Y ad C' (o + 1) (T_do f lt nu) g' ∧ ∀ j, j < o + 1 ∨ o + 1 + 18 ≤ j → C' j = C j)) 0 0 (wA ad N) := by
  refine wMet RX7 rfl (by decide +kernel) (Nat.le_of_ble_eq_true rfl) (lv := [(0, .ref (ad o)), (1, .int (lt)), (2, .int (nu))]) rfl ?_
  intro p e s m below meth c ls F hr hlocks hP hl
  have hS : va_S (wA ad N) s.heap s.heap [] := va_S.rf
  refine lv_iload_n F.1 F.2.1 dX7_carryOrder_0 rfl (lv_at hl 1 rfl) ?_
  by_cases k1 : lt = 60
  · refine lv_lookup (off := 145) (tgt := 146) F.1 F.2.1 dX7_carryOrder_1 (by decide) ((by rw [k1]; rfl)) (by decide) ?_
    refine lv_aload_n F.1 F.2.1 dX7_carryOrder_146 rfl (lv_at hl 0 rfl) ?_
    refine gf_X7_10 F hP (by omega) hob (v := .ref (ad (o + 1))) rfl dX7_carryOrder_147 ?_
    refine lv_iconst (v := 0) F.1 F.2.1 dX7_carryOrder_150 (by decide) ?_
    have he1 := he
    unfold T_err at he1
    simp only [if_pos k1] at he1
    refine w_calli F hP hS (c_X6_tapFrom l D Y ad N hI _ (o + 1) (by omega) f g hnow 0) (cwVm 1 F.2.2.2.2.1 (fun _ h => h) mw_404 mw_401 mw_402 mw_403 mw_15 rfl rfl ydX6_tapFrom ⟨by decide, by decide⟩) (by omega) hnow.1 rfl rfl hl.1 rfl (Nat.le_of_ble_eq_true rfl) dX7_carryOrder_151 ⟨Nat.zero_le _, Nat.zero_le _⟩ (fun r1 K1 H locs hq1 hP hS => ?_)
    obtain ⟨hq1r, hq1a, hq1c⟩ := hq1
    exact w_iret F hr hlocks hP hS dX7_carryOrder_154 ⟨_, by unfold T_do; simp only [if_pos k1]; exact hq1a, hq1c⟩
  · by_cases k2 : lt = 62
    · refine lv_lookup (off := 154) (tgt := 155) F.1 F.2.1 dX7_carryOrder_1 (by decide) ((lv_osw k1 rfl).trans ((by rw [k2]; rfl))) (by decide) ?_
      refine lv_aload_n F.1 F.2.1 dX7_carryOrder_155 rfl (lv_at hl 0 rfl) ?_
      refine gf_X7_10 F hP (by omega) hob (v := .ref (ad (o + 1))) rfl dX7_carryOrder_156 ?_
      refine lv_iconst (v := 1) F.1 F.2.1 dX7_carryOrder_159 (by decide) ?_
      have he1 := he
      unfold T_err at he1
      simp only [if_neg k1, if_pos k2] at he1
      refine w_calli F hP hS (c_X6_tapFrom l D Y ad N hI _ (o + 1) (by omega) f g hnow 1) (cwVm 1 F.2.2.2.2.1 (fun _ h => h) mw_404 mw_401 mw_402 mw_403 mw_15 rfl rfl ydX6_tapFrom ⟨by decide, by decide⟩) (by omega) hnow.1 rfl rfl hl.1 rfl (Nat.le_of_ble_eq_true rfl) dX7_carryOrder_160 ⟨Nat.zero_le _, Nat.zero_le _⟩ (fun r1 K1 H locs hq1 hP hS => ?_)
      obtain ⟨hq1r, hq1a, hq1c⟩ := hq1
      exact w_iret F hr hlocks hP hS dX7_carryOrder_163 ⟨_, by unfold T_do; simp only [if_neg k1, if_pos k2]; exact hq1a, hq1c⟩
    · by_cases k3 : lt = 100
      · refine lv_lookup (off := 67) (tgt := 68) F.1 F.2.1 dX7_carryOrder_1 (by decide) ((lv_osw k1 rfl).trans ((lv_osw k2 rfl).trans ((by rw [k3]; rfl)))) (by decide) ?_
        refine lv_aload_n F.1 F.2.1 dX7_carryOrder_68 rfl (lv_at hl 0 rfl) ?_
        refine gf_X7_10 F hP (by omega) hob (v := .ref (ad (o + 1))) rfl dX7_carryOrder_69 ?_
        refine lv_aload_n F.1 F.2.1 dX7_carryOrder_72 rfl (lv_at hl 0 rfl) ?_
        refine gf_X7_10 F hP (by omega) hob (v := .ref (ad (o + 1))) rfl dX7_carryOrder_73 ?_
        refine gf_X7_70 F hP (by omega) hnow.1 (v := .ref (ad ((o + 1) + 3))) rfl dX7_carryOrder_76 ?_
        refine gf_X7_224 F hP (by omega) hnow.2.2.1.1 (v := .int (f 4)) rfl dX7_carryOrder_79 ?_
        refine lv_iconst (v := 0) F.1 F.2.1 dX7_carryOrder_82 (by decide) ?_
        refine lv_iload_n F.1 F.2.1 dX7_carryOrder_83 rfl (lv_at hl 2 rfl) ?_
        have he1 := he
        unfold T_err at he1
        simp only [if_neg k1, if_neg k2, if_pos k3] at he1
        obtain ⟨kp, n4, ek, hk4, hn4, h4, hcl, hokp⟩ := pe_0 he1 hok.1
        refine w_calli F hP hS (c_X6_addPart l D Y ad N hI _ (o + 1) (by omega) f g hnow kp n4 0 nu hk4 hn4 h4 (f 4) ek) (cwVm 3 F.2.2.2.2.1 (fun _ h => h) mw_203 mw_200 mw_201 mw_202 mw_15 rfl rfl ydX6_addPart ⟨by decide, by decide⟩) (by omega) hnow.1 rfl rfl hl.1 rfl (Nat.le_of_ble_eq_true rfl) dX7_carryOrder_84 ⟨Nat.zero_le _, Nat.zero_le _⟩ (fun r1 K1 H locs hq1 hP hS => ?_)
        obtain ⟨hq1r, hq1a, hq1c⟩ := hq1
        exact w_iret F hr hlocks hP hS dX7_carryOrder_87 ⟨_, by unfold T_do; simp only [if_neg k1, if_neg k2, if_pos k3]; rw [hcl]; exact hq1a, hq1c⟩
      · by_cases k4 : lt = 103
        · refine lv_lookup (off := 107) (tgt := 108) F.1 F.2.1 dX7_carryOrder_1 (by decide) ((lv_osw k1 rfl).trans ((lv_osw k2 rfl).trans ((lv_osw k3 rfl).trans ((by rw [k4]; rfl))))) (by decide) ?_
          refine lv_aload_n F.1 F.2.1 dX7_carryOrder_108 rfl (lv_at hl 0 rfl) ?_
          refine gf_X7_10 F hP (by omega) hob (v := .ref (ad (o + 1))) rfl dX7_carryOrder_109 ?_
          refine lv_aload_n F.1 F.2.1 dX7_carryOrder_112 rfl (lv_at hl 0 rfl) ?_
          refine gf_X7_10 F hP (by omega) hob (v := .ref (ad (o + 1))) rfl dX7_carryOrder_113 ?_
          refine gf_X7_70 F hP (by omega) hnow.1 (v := .ref (ad ((o + 1) + 3))) rfl dX7_carryOrder_116 ?_
          refine gf_X7_224 F hP (by omega) hnow.2.2.1.1 (v := .int (f 4)) rfl dX7_carryOrder_119 ?_
          refine lv_iconst (v := 2) F.1 F.2.1 dX7_carryOrder_122 (by decide) ?_
          refine lv_iload_n F.1 F.2.1 dX7_carryOrder_123 rfl (lv_at hl 2 rfl) ?_
          have he1 := he
          unfold T_err at he1
          simp only [if_neg k1, if_neg k2, if_neg k3, if_pos k4] at he1
          obtain ⟨kp, n4, ek, hk4, hn4, h4, hcl, hokp⟩ := pe_0 he1 hok.1
          refine w_calli F hP hS (c_X6_addPart l D Y ad N hI _ (o + 1) (by omega) f g hnow kp n4 2 nu hk4 hn4 h4 (f 4) ek) (cwVm 3 F.2.2.2.2.1 (fun _ h => h) mw_203 mw_200 mw_201 mw_202 mw_15 rfl rfl ydX6_addPart ⟨by decide, by decide⟩) (by omega) hnow.1 rfl rfl hl.1 rfl (Nat.le_of_ble_eq_true rfl) dX7_carryOrder_124 ⟨Nat.zero_le _, Nat.zero_le _⟩ (fun r1 K1 H locs hq1 hP hS => ?_)
          obtain ⟨hq1r, hq1a, hq1c⟩ := hq1
          exact w_iret F hr hlocks hP hS dX7_carryOrder_127 ⟨_, by unfold T_do; simp only [if_neg k1, if_neg k2, if_neg k3, if_pos k4]; rw [hcl]; exact hq1a, hq1c⟩
        · by_cases k5 : lt = 104
          · refine lv_lookup (off := 127) (tgt := 128) F.1 F.2.1 dX7_carryOrder_1 (by decide) ((lv_osw k1 rfl).trans ((lv_osw k2 rfl).trans ((lv_osw k3 rfl).trans ((lv_osw k4 rfl).trans ((by rw [k5]; rfl)))))) (by decide) ?_
            refine lv_aload_n F.1 F.2.1 dX7_carryOrder_128 rfl (lv_at hl 0 rfl) ?_
            refine gf_X7_10 F hP (by omega) hob (v := .ref (ad (o + 1))) rfl dX7_carryOrder_129 ?_
            refine lv_iload_n F.1 F.2.1 dX7_carryOrder_132 rfl (lv_at hl 2 rfl) ?_
            have he1 := he
            unfold T_err at he1
            simp only [if_neg k1, if_neg k2, if_neg k3, if_neg k4, if_pos k5] at he1
            refine w_calli F hP hS (c_X6_beginRun l D Y ad N hI _ (o + 1) (by omega) f g hnow nu) (cwVm 1 F.2.2.2.2.1 (fun _ h => h) mw_262 mw_259 mw_260 mw_261 mw_15 rfl rfl ydX6_beginRun ⟨by decide, by decide⟩) (by omega) hnow.1 rfl rfl hl.1 rfl (Nat.le_of_ble_eq_true rfl) dX7_carryOrder_133 ⟨Nat.zero_le _, Nat.zero_le _⟩ (fun r1 K1 H locs hq1 hP hS => ?_)
            obtain ⟨hq1r, hq1a, hq1c⟩ := hq1
            exact w_iret F hr hlocks hP hS dX7_carryOrder_136 ⟨_, by unfold T_do; simp only [if_neg k1, if_neg k2, if_neg k3, if_neg k4, if_pos k5]; exact hq1a, hq1c⟩
          · by_cases k6 : lt = 108
            · refine lv_lookup (off := 87) (tgt := 88) F.1 F.2.1 dX7_carryOrder_1 (by decide) ((lv_osw k1 rfl).trans ((lv_osw k2 rfl).trans ((lv_osw k3 rfl).trans ((lv_osw k4 rfl).trans ((lv_osw k5 rfl).trans ((by rw [k6]; rfl))))))) (by decide) ?_
              refine lv_aload_n F.1 F.2.1 dX7_carryOrder_88 rfl (lv_at hl 0 rfl) ?_
              refine gf_X7_10 F hP (by omega) hob (v := .ref (ad (o + 1))) rfl dX7_carryOrder_89 ?_
              refine lv_aload_n F.1 F.2.1 dX7_carryOrder_92 rfl (lv_at hl 0 rfl) ?_
              refine gf_X7_10 F hP (by omega) hob (v := .ref (ad (o + 1))) rfl dX7_carryOrder_93 ?_
              refine gf_X7_70 F hP (by omega) hnow.1 (v := .ref (ad ((o + 1) + 3))) rfl dX7_carryOrder_96 ?_
              refine gf_X7_224 F hP (by omega) hnow.2.2.1.1 (v := .int (f 4)) rfl dX7_carryOrder_99 ?_
              refine lv_iconst (v := 1) F.1 F.2.1 dX7_carryOrder_102 (by decide) ?_
              refine lv_iload_n F.1 F.2.1 dX7_carryOrder_103 rfl (lv_at hl 2 rfl) ?_
              have he1 := he
              unfold T_err at he1
              simp only [if_neg k1, if_neg k2, if_neg k3, if_neg k4, if_neg k5, if_pos k6] at he1
              obtain ⟨kp, n4, ek, hk4, hn4, h4, hcl, hokp⟩ := pe_0 he1 hok.1
              refine w_calli F hP hS (c_X6_addPart l D Y ad N hI _ (o + 1) (by omega) f g hnow kp n4 1 nu hk4 hn4 h4 (f 4) ek) (cwVm 3 F.2.2.2.2.1 (fun _ h => h) mw_203 mw_200 mw_201 mw_202 mw_15 rfl rfl ydX6_addPart ⟨by decide, by decide⟩) (by omega) hnow.1 rfl rfl hl.1 rfl (Nat.le_of_ble_eq_true rfl) dX7_carryOrder_104 ⟨Nat.zero_le _, Nat.zero_le _⟩ (fun r1 K1 H locs hq1 hP hS => ?_)
              obtain ⟨hq1r, hq1a, hq1c⟩ := hq1
              exact w_iret F hr hlocks hP hS dX7_carryOrder_107 ⟨_, by unfold T_do; simp only [if_neg k1, if_neg k2, if_neg k3, if_neg k4, if_neg k5, if_pos k6]; rw [hcl]; exact hq1a, hq1c⟩
            · by_cases k7 : lt = 114
              · refine lv_lookup (off := 136) (tgt := 137) F.1 F.2.1 dX7_carryOrder_1 (by decide) ((lv_osw k1 rfl).trans ((lv_osw k2 rfl).trans ((lv_osw k3 rfl).trans ((lv_osw k4 rfl).trans ((lv_osw k5 rfl).trans ((lv_osw k6 rfl).trans ((by rw [k7]; rfl)))))))) (by decide) ?_
                refine lv_aload_n F.1 F.2.1 dX7_carryOrder_137 rfl (lv_at hl 0 rfl) ?_
                refine gf_X7_10 F hP (by omega) hob (v := .ref (ad (o + 1))) rfl dX7_carryOrder_138 ?_
                refine lv_iload_n F.1 F.2.1 dX7_carryOrder_141 rfl (lv_at hl 2 rfl) ?_
                have he1 := he
                unfold T_err at he1
                simp only [if_neg k1, if_neg k2, if_neg k3, if_neg k4, if_neg k5, if_neg k6, if_pos k7] at he1
                obtain ⟨kp, hk1, hk20, ek, hcl, h5, h11⟩ := re_0 he1
                refine w_calli F hP hS (c_X6_rollOver l D Y ad N hI _ (o + 1) (by omega) f g hnow B kp (by omega) (by omega) hok.1 (hok.2.2.1 h5) h5 h11 hok.2.2.2.1 hok.2.2.2.2 nu ek) (cwVm 1 F.2.2.2.2.1 (fun _ h => h) mw_290 mw_287 mw_288 mw_289 mw_15 rfl rfl ydX6_rollOver ⟨by decide, by decide⟩) (by omega) hnow.1 rfl rfl hl.1 rfl (Nat.le_of_ble_eq_true rfl) dX7_carryOrder_142 ⟨Nat.zero_le _, Nat.zero_le _⟩ (fun r1 K1 H locs hq1 hP hS => ?_)
                obtain ⟨hq1r, hq1a, hq1c⟩ := hq1
                exact w_iret F hr hlocks hP hS dX7_carryOrder_145 ⟨_, by unfold T_do; simp only [if_neg k1, if_neg k2, if_neg k3, if_neg k4, if_neg k5, if_neg k6, if_pos k7]; rw [hcl, rolled_g kp (g' := g)]; exact hq1a, hq1c⟩
              · refine lv_lookup (off := 163) (tgt := 164) F.1 F.2.1 dX7_carryOrder_1 (by decide) ((lv_osw k1 rfl).trans ((lv_osw k2 rfl).trans ((lv_osw k3 rfl).trans ((lv_osw k4 rfl).trans ((lv_osw k5 rfl).trans ((lv_osw k6 rfl).trans ((lv_osw k7 rfl).trans (rfl)))))))) (by decide) ?_
                refine lv_aload_n F.1 F.2.1 dX7_carryOrder_164 rfl (lv_at hl 0 rfl) ?_
                refine gf_X7_10 F hP (by omega) hob (v := .ref (ad (o + 1))) rfl dX7_carryOrder_165 ?_
                have he1 := he
                unfold T_err at he1
                simp only [if_neg k1, if_neg k2, if_neg k3, if_neg k4, if_neg k5, if_neg k6, if_neg k7] at he1
                refine w_calli F hP hS (c_X6_pushOn l D Y ad N hI _ (o + 1) (by omega) f g hnow ) (cwVm 0 F.2.2.2.2.1 (fun _ h => h) mw_429 mw_426 mw_427 mw_428 mw_15 rfl rfl ydX6_pushOn ⟨by decide, by decide⟩) (by omega) hnow.1 rfl rfl hl.1 rfl (Nat.le_of_ble_eq_true rfl) dX7_carryOrder_168 ⟨Nat.zero_le _, Nat.zero_le _⟩ (fun r1 K1 H locs hq1 hP hS => ?_)
                obtain ⟨hq1r, hq1a, hq1c⟩ := hq1
                exact w_iret F hr hlocks hP hS dX7_carryOrder_171 ⟨_, by unfold T_do; simp only [if_neg k1, if_neg k2, if_neg k3, if_neg k4, if_neg k5, if_neg k6, if_neg k7]; exact hq1a, hq1c⟩
/-- the orders from a on, one after the other, until one cannot be -/
def T_co (pd : Nat → Int32) (n : Nat) : Nat → (Nat → Int32) → Nat → Nat → (Nat → Int32) × Nat
  | 0, f, _, d => (f, d)
  | m + 1, f, a, d => if P_ok pd n a then (if T_err f (chr_ pd n a) (P_no pd n a) = 0 then T_co pd n m (T_do f (chr_ pd n a) (P_no pd n a)) (if chr_ pd n (P_end pd n a) = 59 then P_end pd n a + 1 else P_end pd n a) (d + 1) else (f, d)) else (f, d)
theorem okRow_co {pd : Nat → Int32} {n : Nat} (m : Nat) : ∀ {B : Int} {f : Nat → Int32} {a d : Nat}, 0 ≤ B → B + 525 * m + 600 ≤ 900000000 → okRow B f → okRow (B + 525 * m) (T_co pd n m f a d).1 := by
  induction m with
  | zero => intro B f a d h0 hb h; exact okRow_mono (by omega) h
  | succ m ih =>
    intro B f a d h0 hb h
    show okRow _ (if P_ok pd n a then (if T_err f (chr_ pd n a) (P_no pd n a) = 0 then T_co pd n m (T_do f (chr_ pd n a) (P_no pd n a)) (if chr_ pd n (P_end pd n a) = 59 then P_end pd n a + 1 else P_end pd n a) (d + 1) else (f, d)) else (f, d)).1
    by_cases p : P_ok pd n a
    · rw [if_pos p]
      by_cases e : T_err f (chr_ pd n a) (P_no pd n a) = 0
      · rw [if_pos e]
        have q := ih (a := if chr_ pd n (P_end pd n a) = 59 then P_end pd n a + 1 else P_end pd n a) (d := d + 1) (by omega) (by omega) (okRow_do h0 (by omega) h e)
        exact okRow_mono (by omega) q
      · rw [if_neg e]; exact okRow_mono (by omega) h
    · rw [if_neg p]; exact okRow_mono (by omega) h
theorem add_m1 {m i : Nat} (h : i < m) : m - i = m - (i + 1) + 1 := by omega
def T_out (f : Nat → Int32) (pd : Nat → Int32) (n : Nat) : (Nat → Int32) × Nat := T_co pd n 80 f 0 0
set_option maxRecDepth 20000 in
set_option maxHeartbeats 4000000 in
/-- the orders carried out -/
theorem c_X7_carryOut (l : Launch) (D : va_G) (Y : Nat → ClassId) (ad : Nat → Nat) (N : Nat) (hI : wI ad N) (C : Nat → va_E) (o : Nat) (hh : o + 170 ≤ N) (f : Nat → Int32) (hs : Nat → Nat → Int32) (kn : Nat) (sl : Nat → Nat → Int32) (sv : Nat → Int32) (pd : Nat → Int32) (n : Nat) (hA : clsA Y ad C o f hs kn sl sv pd n) (B : Int) (hB0 : 0 ≤ B) (hok : okRow B f) (hBb : B + 60000 ≤ 900000000) : Met l yX7_carryOut (wm yX7_carryOut cX7_carryOut 3 (some .int)) { frames := 7, cells := 0, slots := 0, locals := 151 } (wPc D Y ad N [.ref (ad o)] C) (wQi D ad N (fun r C' => (F_fault pd n 80 0 = -6 → r = nI (T_out f pd n).2 ∧ clsA Y ad C' o (T_out f pd n).1 (H_rec f hs kn) (K_rec kn) sl sv pd 0 ∧ ∀ j, j < o ∨ o + 170 ≤ j → C' j = C j) ∧ (¬ F_fault pd n 80 0 = -6 → r = -3 ∧ clsA Y ad C' o f hs kn sl sv pd n ∧ ∀ j, j < o ∨ o + 170 ≤ j → C' j = C j))) 0 0 (wA ad N) := by
  obtain ⟨FF, GG, nx, fl, hc, hnx, hkn, hn80, h0, hhi, h7, h8, hv0, hv1⟩ := id hA
  have hnow : isState Y ad C (o + 1) f (GG 0) := by have q := hc.2.2.2.2.2.2.2 0 (by decide); rw [h0] at q; exact q
  obtain ⟨p1, p2, p3, hpd⟩ := hc.2.2.2.2.1
  have hz := hok.2.1
  refine wMet RX7 rfl (by decide +kernel) (Nat.le_of_ble_eq_true rfl) (lv := [(0, .ref (ad o))]) rfl ?_
  intro p e s m below meth c ls F hr hlocks hP hl
  have hS : va_S (wA ad N) s.heap s.heap [] := va_S.rf
  refine lv_aload_n F.1 F.2.1 dX7_carryOut_0 rfl (lv_at hl 0 rfl) ?_
  refine gf_X7_34 F hP (by omega) hc.1 (v := .ref (ad (o + 167))) rfl dX7_carryOut_1 ?_
  refine w_calli F hP hS (c_X2_firstFault l D Y ad N hI _ (o + 167) (by omega) pd n p1 p2 p3 hn80 hpd hc.2.2.2.2.2.1) (cwVm 0 F.2.2.2.2.1 (fun _ h => h) mw_590 mw_587 mw_588 mw_589 mw_26 rfl rfl ydX2_firstFault ⟨by decide, by decide⟩) (by omega) hpd rfl rfl hl.1 rfl (Nat.le_of_ble_eq_true rfl) dX7_carryOut_4 ⟨Nat.zero_le _, Nat.zero_le _⟩ (fun r1 K1 H locs hq1 hP hS => ?_)
  obtain ⟨hq1r, p4, p5, p6, hq1a⟩ := hq1
  have sf1 : ∀ j, j ≠ o + 167 → K1 j = C j := fun j hj => by rw [hq1a, va_up_ne _ _ hj]
  have pd1 : K1 (o + 167) = pdV ad (o + 167) (nI n) p4 p5 p6 := by rw [hq1a]; exact va_up_self _ _ _
  have hc1 := cls_pad hc (n' := n) (pd' := pd) pd1 ((sf1 _ (by omega)).trans hc.2.2.2.2.2.1) (fun j a z => sf1 j a)
  have hnow1 : isState Y ad K1 (o + 1) f (GG 0) := isState_same hnow (fun j a z => sf1 j (by omega))
  have fr1 : ∀ j, j < o ∨ o + 170 ≤ j → K1 j = C j := fun j hj => sf1 j (by omega)
  refine lv_bipush (v := (-6)) F.1 F.2.1 dX7_carryOut_7 (by decide) ?_
  refine lv_icmp_eq (tgt := 15) F.1 F.2.1 dX7_carryOut_9 (by decide) (fun c1 => ?_) (fun c1 => ?_)
  · refine lv_aload_n F.1 F.2.1 dX7_carryOut_15 rfl (lv_at hl 0 rfl) ?_
    refine gf_X7_19 F hP (by omega) hc1.1 (v := .ref (ad (o + 19))) rfl dX7_carryOut_16 ?_
    refine lv_aload_n F.1 F.2.1 dX7_carryOut_19 rfl (lv_at hl 0 rfl) ?_
    refine gf_X7_10 F hP (by omega) hc1.1 (v := .ref (ad (o + 1))) rfl dX7_carryOut_20 ?_
    have hbe := bs_ring hnx
    have htg : isState Y ad K1 (o + 19 + 2 + 18 * nx) (FF (nx + 1)) (GG (nx + 1)) := by have q := hc1.2.2.2.2.2.2.2 (nx + 1) (by omega); rw [hbe, show o + (21 + 18 * nx) = o + 19 + 2 + 18 * nx by omega] at q; exact q
    refine w_callv F hP hS (c_X0_record l D Y ad N hI _ (o + 19) (o + 1) (by omega) (by omega) (by omega) nx kn hnx hkn hc1.2.1 f (FF (nx + 1)) (GG 0) (GG (nx + 1)) hnow1 htg hz) (cwVm 1 F.2.2.2.2.1 (fun _ h => h) mw_124 mw_121 mw_122 mw_123 mw_19 rfl rfl ydX0_record ⟨by decide, by decide⟩) (by omega) hc1.2.1.1 rfl rfl hl.1 rfl (Nat.le_of_ble_eq_true rfl) dX7_carryOut_23 ⟨Nat.zero_le _, Nat.zero_le _⟩ (fun K2 H locs hq2 hP hS => ?_)
    obtain ⟨hq2a, hq2b, hq2c⟩ := hq2
    have hc2 := cls_rec hnx hc1 hq2a hq2b hq2c
    have hnow2 : isState Y ad K2 (o + 1) f (GG 0) := isState_same hnow1 (fun j a z => hq2c j (by omega) (by omega))
    have fr2 : ∀ j, j < o ∨ o + 170 ≤ j → K2 j = C j := fun j hj => (hq2c j (by omega) (by omega)).trans (fr1 j hj)
    have pd2 : K2 (o + 167) = pdV ad (o + 167) (nI n) p4 p5 p6 := (hq2c _ (by omega) (by omega)).trans pd1
    refine lv_iconst (v := 0) F.1 F.2.1 dX7_carryOut_26 (by decide) ?_
    refine lv_istore_n (lv' := [(1, .int (0)), (0, .ref (ad o))]) F.1 F.2.1 dX7_carryOut_27 rfl hl (by decide) rfl (fun ls hl => ?_)
    refine lv_aload_n F.1 F.2.1 dX7_carryOut_28 rfl (lv_at hl 1 rfl) ?_
    refine gf_X7_34 F hP (by omega) hc2.1 (v := .ref (ad (o + 167))) rfl dX7_carryOut_29 ?_
    refine w_callv F hP hS (c_X2_startReading l D Y ad N hI _ (o + 167) (by omega) pd n p4 p5 p6 hn80 pd2 hc2.2.2.2.2.2.1) (cwVm 0 F.2.2.2.2.1 (fun _ h => h) mw_594 mw_644 mw_592 mw_593 mw_26 rfl rfl ydX2_startReading ⟨by decide, by decide⟩) (by omega) pd2 rfl rfl hl.1 rfl (Nat.le_of_ble_eq_true rfl) dX7_carryOut_32 ⟨Nat.zero_le _, Nat.zero_le _⟩ (fun K3 H locs hq3 hP hS => ?_)
    have sf3 : ∀ j, j ≠ o + 167 → K3 j = K2 j := fun j hj => by rw [hq3, va_up_ne _ _ hj]
    have pd3 : K3 (o + 167) = pdV ad (o + 167) (nI n) (nI 0) p5 p6 := by rw [hq3]; exact va_up_self _ _ _
    have hnow3 : isState Y ad K3 (o + 1) f (GG 0) := isState_same hnow2 (fun j a z => sf3 j (by omega))
    refine lv_iconst (v := 0) F.1 F.2.1 dX7_carryOut_35 (by decide) ?_
    refine lv_istore_n (lv' := [(2, .int (0)), (1, .int (0)), (0, .ref (ad o))]) F.1 F.2.1 dX7_carryOut_36 rfl hl (by decide) rfl (fun ls hl => ?_)
    refine w_loop (Inv := fun j ls C' => ∃ (i a d : Nat) (fi : Nat → Int32) (gi lt nu : Int32), j = 80 - i ∧ i ≤ 80 ∧ a ≤ n ∧ d ≤ i ∧ lv_has ls 3 [(2, .int (nI i)), (1, .int (nI d)), (0, .ref (ad o))] ∧ C' (o + 167) = pdV ad (o + 167) (nI n) (nI a) lt nu ∧ isState Y ad C' (o + 1) fi gi ∧ (∀ j, j ≠ o + 167 → j < o + 1 ∨ o + 1 + 18 ≤ j → C' j = K2 j) ∧ okRow (B + 525 * i) fi ∧ T_co pd n (80 - i) fi a d = T_co pd n 80 f 0 0) ?_ 80 ⟨0, 0, 0, f, GG 0, p5, p6, rfl, by decide, Nat.zero_le _, Nat.le_refl _, lv_sub hl [0, 1, 2] rfl, pd3, hnow3, fun j a z => sf3 j a, okRow_mono (by omega) hok, rfl⟩ hP hS
    intro j ih H locs ls K4 hInv hP hS
    obtain ⟨i, a, d, fi, gi, lt, nu, hj, hi80, han, hdi, hl, pd4, hnow4, sf4, hoki, hW⟩ := hInv
    have hob4 : K4 o = _ := (sf4 _ (by omega) (by omega)).trans hc2.1
    have hcd4 : K4 (o + 168) = .inl (Y 0, 80, .inl pd) := (sf4 _ (by omega) (by omega)).trans hc2.2.2.2.2.2.1
    refine lv_iload_n F.1 F.2.1 dX7_carryOut_37 rfl (lv_at hl 0 rfl) ?_
    refine lv_bipush (v := 80) F.1 F.2.1 dX7_carryOut_38 (by decide) ?_
    refine lv_icmp_ge (tgt := 113) F.1 F.2.1 dX7_carryOut_40 (by decide) (fun c2 => ?_) (fun c2 => ?_)
    · refine lv_aload_n F.1 F.2.1 dX7_carryOut_113 rfl (lv_at hl 2 rfl) ?_
      refine gf_X7_34 F hP (by omega) hob4 (v := .ref (ad (o + 167))) rfl dX7_carryOut_114 ?_
      have hW9 : (fi, d) = T_co pd n 80 f 0 0 := by have h80 : i = 80 := Nat.le_antisymm hi80 (Nat.le_of_not_lt (fun q => nI_ge q (by decide) c2)); subst h80; exact hW
      have sgv : ∀ j, j ≠ o + 167 → j < o + 1 ∨ o + 1 + 18 ≤ j → K4 j = K2 j := sf4
      refine w_calli F hP hS (c_X2_empty l D Y ad N hI _ (o + 167) (by omega) pd n (nI a) lt nu hn80 pd4 hcd4) (cwVm 0 F.2.2.2.2.1 (fun _ h => h) mw_578 mw_575 mw_576 mw_577 mw_26 rfl rfl ydX2_empty ⟨by decide, by decide⟩) (by omega) pd4 rfl rfl hl.1 rfl (Nat.le_of_ble_eq_true rfl) dX7_carryOut_117 ⟨Nat.zero_le _, Nat.zero_le _⟩ (fun r8 K8 H locs hq8 hP hS => ?_)
      obtain ⟨hq8a, hq8r⟩ := hq8
      have sf8 : ∀ j, j ≠ o + 167 → K8 j = K4 j := fun j hj => by rw [hq8a, va_up_ne _ _ hj]
      obtain ⟨K7, eK7⟩ : ∃ z, z = va_up K8 (o + 167) (K2 (o + 167)) := ⟨_, rfl⟩
      have sa : ∀ j, j ≠ o + 167 → K7 j = K8 j := fun j hj => by rw [eK7, va_up_ne _ _ hj]
      have hb0 : bs 0 = 1 := rfl
      have hc7 := cls_st (C' := K7) 0 (by decide) hc2 (isState_same hnow4 (fun j a z => (sa j (by omega)).trans (sf8 j (by omega)))) (fun j hj => if q : j = o + 167 then (by rw [q, eK7]; exact va_up_self _ _ _) else (sa j q).trans ((sf8 j q).trans (sgv j q (by omega))))
      have hc8 := cls_pad hc7 (C' := K8) (n' := 0) (pd' := pd) (by rw [hq8a]; exact va_up_self _ _ _) ((sf8 _ (by omega)).trans hcd4) (fun j a z => (sa j a).symm)
      have fr8 : ∀ j, j < o ∨ o + 170 ≤ j → K8 j = C j := fun j hj => (sf8 j (by omega)).trans ((sgv j (by omega) (by omega)).trans (fr2 j hj))
      refine lv_pop F.1 F.2.1 dX7_carryOut_120 rfl ?_
      refine lv_iload_n F.1 F.2.1 dX7_carryOut_121 rfl (lv_at hl 1 rfl) ?_
      exact w_iret F hr hlocks hP hS dX7_carryOut_122 ⟨fun _ => ⟨congrArg (fun z => nI z.2) hW9, (show (T_out f pd n).1 = fi from (congrArg Prod.fst hW9).symm) ▸ A_rec hnx hkn (by decide) h0 hhi h7 h8 hv0 hv1 hc8, fr8⟩, fun q => absurd (hq1r.symm.trans c1) q⟩
    · have hi : i < 80 := Nat.lt_of_not_le (fun q => c2 (nI_le (a := 80) q (by omega)))
      rw [add_m1 hi] at hW
      have hW2 : (if P_ok pd n a then (if T_err fi (chr_ pd n a) (P_no pd n a) = 0 then T_co pd n (80 - (i + 1)) (T_do fi (chr_ pd n a) (P_no pd n a)) (if chr_ pd n (P_end pd n a) = 59 then P_end pd n a + 1 else P_end pd n a) (d + 1) else (fi, d)) else (fi, d)) = T_co pd n 80 f 0 0 := hW
      refine lv_aload_n F.1 F.2.1 dX7_carryOut_43 rfl (lv_at hl 2 rfl) ?_
      refine gf_X7_34 F hP (by omega) hob4 (v := .ref (ad (o + 167))) rfl dX7_carryOut_44 ?_
      refine w_calli F hP hS (c_X2_readOrder l D Y ad N hI _ (o + 167) (by omega) pd n a lt nu hn80 pd4 hcd4 (by omega)) (cwVm 0 F.2.2.2.2.1 (fun _ h => h) mw_598 mw_645 mw_596 mw_597 mw_26 rfl rfl ydX2_readOrder ⟨by decide, by decide⟩) (by omega) pd4 rfl rfl hl.1 rfl (Nat.le_of_ble_eq_true rfl) dX7_carryOut_47 ⟨Nat.zero_le _, Nat.zero_le _⟩ (fun r5 K5 H locs hq5 hP hS => ?_)
      by_cases hok5 : P_ok pd n a
      · obtain ⟨hq5r, hq5a⟩ := hq5.1 hok5; subst hq5r
        have hpl := P_ok_lt hok5
        have sf5 : ∀ j, j ≠ o + 167 → K5 j = K4 j := fun j hj => by rw [hq5a, va_up_ne _ _ hj]
        have pd5 : K5 (o + 167) = pdV ad (o + 167) (nI n) (nI (P_end pd n a)) (chr_ pd n a) (P_no pd n a) := by rw [hq5a]; exact va_up_self _ _ _
        have hnow5 : isState Y ad K5 (o + 1) fi gi := isState_same hnow4 (fun j a z => sf5 j (by omega))
        have hob5 : K5 o = _ := (sf5 _ (by omega)).trans hob4
        have hcd5 : K5 (o + 168) = .inl (Y 0, 80, .inl pd) := (sf5 _ (by omega)).trans hcd4
        have sg5 : ∀ j, j ≠ o + 167 → j < o + 1 ∨ o + 1 + 18 ≤ j → K5 j = K2 j := fun j a z => (sf5 j a).trans (sf4 j a z)
        refine lv_if_eq (tgt := 113) F.1 F.2.1 dX7_carryOut_50 (by decide) (fun c3 => False.elim (by revert c3; decide)) (fun c3 => ?_)
        refine lv_aload_n F.1 F.2.1 dX7_carryOut_53 rfl (lv_at hl 2 rfl) ?_
        refine lv_aload_n F.1 F.2.1 dX7_carryOut_54 rfl (lv_at hl 2 rfl) ?_
        refine gf_X7_34 F hP (by omega) hob5 (v := .ref (ad (o + 167))) rfl dX7_carryOut_55 ?_
        refine gf_X7_210 F hP (by omega) pd5 (v := .int (chr_ pd n a)) rfl dX7_carryOut_58 ?_
        refine lv_aload_n F.1 F.2.1 dX7_carryOut_61 rfl (lv_at hl 2 rfl) ?_
        refine gf_X7_34 F hP (by omega) hob5 (v := .ref (ad (o + 167))) rfl dX7_carryOut_62 ?_
        refine gf_X7_213 F hP (by omega) pd5 (v := .int (P_no pd n a)) rfl dX7_carryOut_65 ?_
        refine w_calli F hP hS (c_X7_orderError l D Y ad N hI _ o hh hob5 fi gi hnow5 (chr_ pd n a) (P_no pd n a) (B + 525 * i) hoki (by omega)) (cwVm 2 F.2.2.2.2.1 (fun _ h => h) mw_649 mw_646 mw_647 mw_648 mw_2 rfl rfl ydX7_orderError ⟨by decide, by decide⟩) (by omega) hob5 rfl rfl hl.1 rfl (Nat.le_of_ble_eq_true rfl) dX7_carryOut_68 ⟨Nat.zero_le _, Nat.zero_le _⟩ (fun r C2 H locs hq hP hS => ?_)
        obtain ⟨hq1, hq2⟩ := hq; rw [hq1] at hP; subst hq2
        refine lv_if_eq (tgt := 77) F.1 F.2.1 dX7_carryOut_71 (by decide) (fun c4 => ?_) (fun c4 => ?_)
        · refine lv_aload_n F.1 F.2.1 dX7_carryOut_77 rfl (lv_at hl 2 rfl) ?_
          refine lv_aload_n F.1 F.2.1 dX7_carryOut_78 rfl (lv_at hl 2 rfl) ?_
          refine gf_X7_34 F hP (by omega) hob5 (v := .ref (ad (o + 167))) rfl dX7_carryOut_79 ?_
          refine gf_X7_210 F hP (by omega) pd5 (v := .int (chr_ pd n a)) rfl dX7_carryOut_82 ?_
          refine lv_aload_n F.1 F.2.1 dX7_carryOut_85 rfl (lv_at hl 2 rfl) ?_
          refine gf_X7_34 F hP (by omega) hob5 (v := .ref (ad (o + 167))) rfl dX7_carryOut_86 ?_
          refine gf_X7_213 F hP (by omega) pd5 (v := .int (P_no pd n a)) rfl dX7_carryOut_89 ?_
          refine w_calli F hP hS (c_X7_carryOrder l D Y ad N hI _ o hh hob5 fi gi hnow5 (chr_ pd n a) (P_no pd n a) c4 (B + 525 * i) hoki (by omega)) (cwVm 2 F.2.2.2.2.1 (fun _ h => h) mw_653 mw_650 mw_651 mw_652 mw_2 rfl rfl ydX7_carryOrder ⟨by decide, by decide⟩) (by omega) hob5 rfl rfl hl.1 rfl (Nat.le_of_ble_eq_true rfl) dX7_carryOut_92 ⟨Nat.zero_le _, Nat.zero_le _⟩ (fun r6 K6 H locs hq6 hP hS => ?_)
          obtain ⟨g6, hnow6, sf6⟩ := hq6
          obtain ⟨f6, ef6⟩ : ∃ z, z = T_do fi (chr_ pd n a) (P_no pd n a) := ⟨_, rfl⟩
          have hok6 : okRow (B + 525 * ((i + 1 : Nat) : Int)) f6 := by rw [ef6, show B + 525 * ((i + 1 : Nat) : Int) = B + 525 * i + 525 by omega]; exact okRow_do (by omega) (by omega) hoki c4
          rw [if_pos hok5, if_pos c4, ← ef6] at hW2; rw [← ef6] at hnow6
          have pd6 : K6 (o + 167) = _ := (sf6 _ (by omega)).trans pd5
          have hob6 : K6 o = _ := (sf6 _ (by omega)).trans hob5
          have hcd6 : K6 (o + 168) = .inl (Y 0, 80, .inl pd) := (sf6 _ (by omega)).trans hcd5
          have sg6 : ∀ j, j ≠ o + 167 → j < o + 1 ∨ o + 1 + 18 ≤ j → K6 j = K2 j := fun j a z => (sf6 j z).trans (sg5 j a z)
          refine lv_pop F.1 F.2.1 dX7_carryOut_95 rfl ?_
          refine lv_iinc (v := (nI d) + 1) (lv' := [(1, .int ((nI d) + 1)), (2, .int (nI i)), (0, .ref (ad o))]) F.1 F.2.1 dX7_carryOut_96 hl (k := 1) rfl rfl (by decide) rfl (fun ls hl => ?_)
          refine lv_aload_n F.1 F.2.1 dX7_carryOut_99 rfl (lv_at hl 2 rfl) ?_
          refine gf_X7_34 F hP (by omega) hob6 (v := .ref (ad (o + 167))) rfl dX7_carryOut_100 ?_
          refine w_calli F hP hS (c_X2_skipSeparator l D Y ad N hI _ (o + 167) (by omega) pd n (P_end pd n a) (chr_ pd n a) (P_no pd n a) hn80 pd6 hcd6 (by omega)) (cwVm 0 F.2.2.2.2.1 (fun _ h => h) mw_619 mw_654 mw_617 mw_618 mw_26 rfl rfl ydX2_skipSeparator ⟨by decide, by decide⟩) (by omega) pd6 rfl rfl hl.1 rfl (Nat.le_of_ble_eq_true rfl) dX7_carryOut_103 ⟨Nat.zero_le _, Nat.zero_le _⟩ (fun r7 K7 H locs hq7 hP hS => ?_)
          by_cases hsk : chr_ pd n (P_end pd n a) = 59
          · obtain ⟨hq7r, hq7a⟩ := hq7.1 hsk
            have hlt7 : P_end pd n a < n := chr_lt (fun q => by rw [hsk] at q; exact absurd q (by decide))
            rw [if_pos hsk] at hW2
            have sf7 : ∀ j, j ≠ o + 167 → K7 j = K6 j := fun j hj => by rw [hq7a, va_up_ne _ _ hj]
            have pd7 : K7 (o + 167) = pdV ad (o + 167) (nI n) (nI (P_end pd n a + 1)) (chr_ pd n a) (P_no pd n a) := by rw [hq7a]; exact va_up_self _ _ _
            have hnow7 : isState Y ad K7 (o + 1) f6 g6 := isState_same hnow6 (fun j a z => sf7 j (by omega))
            have sg7 : ∀ j, j ≠ o + 167 → j < o + 1 ∨ o + 1 + 18 ≤ j → K7 j = K2 j := fun j a z => (sf7 j a).trans (sg6 j a z)
            refine lv_pop F.1 F.2.1 dX7_carryOut_106 rfl ?_
            refine lv_iinc (v := (nI i) + 1) (lv' := [(2, .int ((nI i) + 1)), (1, .int ((nI d) + 1)), (0, .ref (ad o))]) F.1 F.2.1 dX7_carryOut_107 hl (k := 1) rfl rfl (by decide) rfl (fun ls hl => ?_)
            refine lv_goto (tgt := 37) F.1 F.2.1 dX7_carryOut_110 (by decide) ?_
            exact ih _ (by omega) _ _ _ _ ⟨i + 1, P_end pd n a + 1, d + 1, f6, g6, _, _, rfl, by omega, by omega, by omega, (by rw [nI_succ, nI_succ]; exact lv_sub hl [0, 1, 2] rfl), pd7, hnow7, sg7, hok6, hW2⟩ hP hS
          · obtain ⟨hq7r, hq7a⟩ := hq7.2 hsk
            rw [if_neg hsk] at hW2
            have sf7 : ∀ j, j ≠ o + 167 → K7 j = K6 j := fun j hj => by rw [hq7a]
            have pd7 : K7 (o + 167) = pdV ad (o + 167) (nI n) (nI (P_end pd n a)) (chr_ pd n a) (P_no pd n a) := by rw [hq7a]; exact pd6
            have hnow7 : isState Y ad K7 (o + 1) f6 g6 := isState_same hnow6 (fun j a z => sf7 j (by omega))
            have sg7 : ∀ j, j ≠ o + 167 → j < o + 1 ∨ o + 1 + 18 ≤ j → K7 j = K2 j := fun j a z => (sf7 j a).trans (sg6 j a z)
            refine lv_pop F.1 F.2.1 dX7_carryOut_106 rfl ?_
            refine lv_iinc (v := (nI i) + 1) (lv' := [(2, .int ((nI i) + 1)), (1, .int ((nI d) + 1)), (0, .ref (ad o))]) F.1 F.2.1 dX7_carryOut_107 hl (k := 1) rfl rfl (by decide) rfl (fun ls hl => ?_)
            refine lv_goto (tgt := 37) F.1 F.2.1 dX7_carryOut_110 (by decide) ?_
            exact ih _ (by omega) _ _ _ _ ⟨i + 1, P_end pd n a, d + 1, f6, g6, _, _, rfl, by omega, by omega, by omega, (by rw [nI_succ, nI_succ]; exact lv_sub hl [0, 1, 2] rfl), pd7, hnow7, sg7, hok6, hW2⟩ hP hS
        · refine lv_goto (tgt := 113) F.1 F.2.1 dX7_carryOut_74 (by decide) ?_
          refine lv_aload_n F.1 F.2.1 dX7_carryOut_113 rfl (lv_at hl 2 rfl) ?_
          refine gf_X7_34 F hP (by omega) hob5 (v := .ref (ad (o + 167))) rfl dX7_carryOut_114 ?_
          have hW9 : (fi, d) = T_co pd n 80 f 0 0 := by rw [if_pos hok5, if_neg c4] at hW2; exact hW2
          have sgv : ∀ j, j ≠ o + 167 → j < o + 1 ∨ o + 1 + 18 ≤ j → K5 j = K2 j := sg5
          refine w_calli F hP hS (c_X2_empty l D Y ad N hI _ (o + 167) (by omega) pd n (nI (P_end pd n a)) (chr_ pd n a) (P_no pd n a) hn80 pd5 hcd5) (cwVm 0 F.2.2.2.2.1 (fun _ h => h) mw_578 mw_575 mw_576 mw_577 mw_26 rfl rfl ydX2_empty ⟨by decide, by decide⟩) (by omega) pd5 rfl rfl hl.1 rfl (Nat.le_of_ble_eq_true rfl) dX7_carryOut_117 ⟨Nat.zero_le _, Nat.zero_le _⟩ (fun r8 K8 H locs hq8 hP hS => ?_)
          obtain ⟨hq8a, hq8r⟩ := hq8
          have sf8 : ∀ j, j ≠ o + 167 → K8 j = K5 j := fun j hj => by rw [hq8a, va_up_ne _ _ hj]
          obtain ⟨K7, eK7⟩ : ∃ z, z = va_up K8 (o + 167) (K2 (o + 167)) := ⟨_, rfl⟩
          have sa : ∀ j, j ≠ o + 167 → K7 j = K8 j := fun j hj => by rw [eK7, va_up_ne _ _ hj]
          have hb0 : bs 0 = 1 := rfl
          have hc7 := cls_st (C' := K7) 0 (by decide) hc2 (isState_same hnow5 (fun j a z => (sa j (by omega)).trans (sf8 j (by omega)))) (fun j hj => if q : j = o + 167 then (by rw [q, eK7]; exact va_up_self _ _ _) else (sa j q).trans ((sf8 j q).trans (sgv j q (by omega))))
          have hc8 := cls_pad hc7 (C' := K8) (n' := 0) (pd' := pd) (by rw [hq8a]; exact va_up_self _ _ _) ((sf8 _ (by omega)).trans hcd5) (fun j a z => (sa j a).symm)
          have fr8 : ∀ j, j < o ∨ o + 170 ≤ j → K8 j = C j := fun j hj => (sf8 j (by omega)).trans ((sgv j (by omega) (by omega)).trans (fr2 j hj))
          refine lv_pop F.1 F.2.1 dX7_carryOut_120 rfl ?_
          refine lv_iload_n F.1 F.2.1 dX7_carryOut_121 rfl (lv_at hl 1 rfl) ?_
          exact w_iret F hr hlocks hP hS dX7_carryOut_122 ⟨fun _ => ⟨congrArg (fun z => nI z.2) hW9, (show (T_out f pd n).1 = fi from (congrArg Prod.fst hW9).symm) ▸ A_rec hnx hkn (by decide) h0 hhi h7 h8 hv0 hv1 hc8, fr8⟩, fun q => absurd (hq1r.symm.trans c1) q⟩
      · obtain ⟨hq5r, nu2, hq5a⟩ := hq5.2 hok5; subst hq5r
        have sf5 : ∀ j, j ≠ o + 167 → K5 j = K4 j := fun j hj => by rw [hq5a, va_up_ne _ _ hj]
        have pd5 : K5 (o + 167) = pdV ad (o + 167) (nI n) (nI (P_end pd n a)) (chr_ pd n a) nu2 := by rw [hq5a]; exact va_up_self _ _ _
        have hnow5 : isState Y ad K5 (o + 1) fi gi := isState_same hnow4 (fun j a z => sf5 j (by omega))
        have hob5 : K5 o = _ := (sf5 _ (by omega)).trans hob4
        have hcd5 : K5 (o + 168) = .inl (Y 0, 80, .inl pd) := (sf5 _ (by omega)).trans hcd4
        have sg5 : ∀ j, j ≠ o + 167 → j < o + 1 ∨ o + 1 + 18 ≤ j → K5 j = K2 j := fun j a z => (sf5 j a).trans (sf4 j a z)
        refine lv_if_eq (tgt := 113) F.1 F.2.1 dX7_carryOut_50 (by decide) (fun c5 => ?_) (fun c5 => False.elim (by revert c5; decide))
        refine lv_aload_n F.1 F.2.1 dX7_carryOut_113 rfl (lv_at hl 2 rfl) ?_
        refine gf_X7_34 F hP (by omega) hob5 (v := .ref (ad (o + 167))) rfl dX7_carryOut_114 ?_
        have hW9 : (fi, d) = T_co pd n 80 f 0 0 := by rw [if_neg hok5] at hW2; exact hW2
        have sgv : ∀ j, j ≠ o + 167 → j < o + 1 ∨ o + 1 + 18 ≤ j → K5 j = K2 j := sg5
        refine w_calli F hP hS (c_X2_empty l D Y ad N hI _ (o + 167) (by omega) pd n (nI (P_end pd n a)) (chr_ pd n a) nu2 hn80 pd5 hcd5) (cwVm 0 F.2.2.2.2.1 (fun _ h => h) mw_578 mw_575 mw_576 mw_577 mw_26 rfl rfl ydX2_empty ⟨by decide, by decide⟩) (by omega) pd5 rfl rfl hl.1 rfl (Nat.le_of_ble_eq_true rfl) dX7_carryOut_117 ⟨Nat.zero_le _, Nat.zero_le _⟩ (fun r8 K8 H locs hq8 hP hS => ?_)
        obtain ⟨hq8a, hq8r⟩ := hq8
        have sf8 : ∀ j, j ≠ o + 167 → K8 j = K5 j := fun j hj => by rw [hq8a, va_up_ne _ _ hj]
        obtain ⟨K7, eK7⟩ : ∃ z, z = va_up K8 (o + 167) (K2 (o + 167)) := ⟨_, rfl⟩
        have sa : ∀ j, j ≠ o + 167 → K7 j = K8 j := fun j hj => by rw [eK7, va_up_ne _ _ hj]
        have hb0 : bs 0 = 1 := rfl
        have hc7 := cls_st (C' := K7) 0 (by decide) hc2 (isState_same hnow5 (fun j a z => (sa j (by omega)).trans (sf8 j (by omega)))) (fun j hj => if q : j = o + 167 then (by rw [q, eK7]; exact va_up_self _ _ _) else (sa j q).trans ((sf8 j q).trans (sgv j q (by omega))))
        have hc8 := cls_pad hc7 (C' := K8) (n' := 0) (pd' := pd) (by rw [hq8a]; exact va_up_self _ _ _) ((sf8 _ (by omega)).trans hcd5) (fun j a z => (sa j a).symm)
        have fr8 : ∀ j, j < o ∨ o + 170 ≤ j → K8 j = C j := fun j hj => (sf8 j (by omega)).trans ((sgv j (by omega) (by omega)).trans (fr2 j hj))
        refine lv_pop F.1 F.2.1 dX7_carryOut_120 rfl ?_
        refine lv_iload_n F.1 F.2.1 dX7_carryOut_121 rfl (lv_at hl 1 rfl) ?_
        exact w_iret F hr hlocks hP hS dX7_carryOut_122 ⟨fun _ => ⟨congrArg (fun z => nI z.2) hW9, (show (T_out f pd n).1 = fi from (congrArg Prod.fst hW9).symm) ▸ A_rec hnx hkn (by decide) h0 hhi h7 h8 hv0 hv1 hc8, fr8⟩, fun q => absurd (hq1r.symm.trans c1) q⟩
  · refine lv_bipush (v := (-3)) F.1 F.2.1 dX7_carryOut_12 (by decide) ?_
    exact w_iret F hr hlocks hP hS dX7_carryOut_14 ⟨fun q => absurd (hq1r.trans q) c1, fun _ => ⟨rfl, (A_pad hnx hkn hn80 h0 hhi h7 h8 hv0 hv1 hc1), fr1⟩⟩
