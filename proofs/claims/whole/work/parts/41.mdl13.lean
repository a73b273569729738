/-! HoopStairsModel: signs come -/
theorem sh_eq (x y : Int64) (z : UInt64) (n : Nat) (hn : n ≤ 56) (hy : (y.toBitVec.smod 64).toNat = n) (hz : (z.toBitVec % 64).toNat = n) : (x >>> y) &&& 255 = (x.toUInt64 >>> z).toInt64 &&& 255 := by
  apply Int64.toBitVec.inj
  apply BitVec.eq_of_getLsbD_eq
  intro i hi
  show (BitVec.sshiftRight' x.toBitVec (y.toBitVec.smod 64) &&& 255#64).getLsbD i = ((x.toBitVec >>> (z.toBitVec % 64)) &&& 255#64).getLsbD i
  rw [BitVec.getLsbD_and, BitVec.getLsbD_and, BitVec.getLsbD_sshiftRight', BitVec.ushiftRight_eq', BitVec.getLsbD_ushiftRight, hy, hz]
  by_cases h : i < 8
  · rw [if_pos (by omega), show decide (64 ≤ i) = false from decide_eq_false (by omega)]
    rfl
  · have e : (255#64).getLsbD i = false := by
      rw [BitVec.getLsbD_ofNat, Nat.testBit_lt_two_pow (Nat.lt_of_lt_of_le (show 255 < 2 ^ 8 by decide) (Nat.pow_le_pow_right (by decide) (by omega)))]
      exact Bool.and_false _
    rw [e, Bool.and_false, Bool.and_false]
theorem by_eq (ch : Int64) {k : Nat} (hk : k < 8) : (ch >>> ((8 * nI k).toInt64 &&& 63) &&& 255).toInt32 = BY ch k := by
  unfold BY BYc
  have hs : ∀ n : Nat, n ≤ 56 → ∀ y : Int32, ((y.toInt64 &&& 63).toBitVec.smod 64).toNat = n → ((y.toInt64.toUInt64 &&& Int64.toUInt64 63).toBitVec % 64).toNat = n → (ch >>> (y.toInt64 &&& 63) &&& 255).toInt32 = ((ch.toUInt64 >>> (y.toInt64.toUInt64 &&& Int64.toUInt64 63)).toInt64 &&& 255).toInt32 := fun n hn y h1 h2 => by rw [sh_eq ch _ _ n hn h1 h2]
  match k, hk with
  | 0, _ => exact hs 0 (by decide) _ (by decide +kernel) (by decide +kernel)
  | 1, _ => exact hs 8 (by decide) _ (by decide +kernel) (by decide +kernel)
  | 2, _ => exact hs 16 (by decide) _ (by decide +kernel) (by decide +kernel)
  | 3, _ => exact hs 24 (by decide) _ (by decide +kernel) (by decide +kernel)
  | 4, _ => exact hs 32 (by decide) _ (by decide +kernel) (by decide +kernel)
  | 5, _ => exact hs 40 (by decide) _ (by decide +kernel) (by decide +kernel)
  | 6, _ => exact hs 48 (by decide) _ (by decide +kernel) (by decide +kernel)
  | 7, _ => exact hs 56 (by decide) _ (by decide +kernel) (by decide +kernel)
set_option maxRecDepth 20000 in
set_option maxHeartbeats 4000000 in
/-- put -/
theorem c_X8_put (l : Launch) (D : va_G) (Y : Nat → ClassId) (ad : Nat → Nat) (N : Nat) (hI : wI ad N) (C : Nat → va_E) (o : Nat) (hh : o + 6 ≤ N) (gr : Int32) (r s0 : Nat → Int32) (k0 : Nat) (hk0 : k0 ≤ 6) (hs : Nat → Nat → Int32) (pa : Nat → Int32) (hpa : C (o + 2) = pA Y pa) (hhs : ∀ i j, i < k0 → j < 161 → pa (161 * i + j) = hs i j) (sl : Nat → Nat → Int32) (sla sv : Nat → Int32) (hsl : C (o + 3) = .inl (Y 0, 322, .inl sla)) (hsls : ∀ k j, k < 2 → j < 161 → ¬ sv k = 0 → sla (161 * k + j) = sl k j) (hsv : C (o + 4) = .inl (Y 1, 2, .inl sv)) (pd : Nat → Int32) (nn : Nat) (hn80 : nn ≤ 80) (hpdd : C (o + 5) = .inl (Y 0, 80, .inl pd)) (ch : Int64) : Met l yX8_put (wm yX8_put cX8_put 8 (some .int)) { frames := 1, cells := 0, slots := 0, locals := 22 } (wPc D Y ad N [.ref (ad o), .long (ch)] (mW Y ad C o (nI k0) (nI nn) gr 0 r s0)) (wQi D ad N (fun q C' => (T_pute ch nn = 0 → q = nI (nn + (M_cnt ch).toNatClampNeg) ∧ mdlA Y ad C' o r hs k0 sl sv (APP pd ch nn (M_cnt ch).toNatClampNeg (M_cnt ch).toNatClampNeg) (nn + (M_cnt ch).toNatClampNeg) ∧ ∀ j, j < o ∨ o + 6 ≤ j → C' j = C j) ∧ (¬ T_pute ch nn = 0 → q = T_pute ch nn ∧ mdlA Y ad C' o r hs k0 sl sv pd nn ∧ ∀ j, j < o ∨ o + 6 ≤ j → C' j = C j))) 0 0 (wA ad N) := by
  refine wMet RX8 rfl (by decide +kernel) (Nat.le_of_ble_eq_true rfl) (lv := [(0, .ref (ad o)), (1, .long (ch))]) rfl ?_
  intro p e s m below meth c ls F hr hlocks hP hl
  have hS : va_S (wA ad N) s.heap s.heap [] := va_S.rf
  refine lv_iconst (v := 0) F.1 F.2.1 dX8_put_0 (by decide) ?_
  refine lv_istore_n (lv' := [(3, .int (0)), (0, .ref (ad o)), (1, .long (ch))]) F.1 F.2.1 dX8_put_1 rfl hl (by decide) rfl (fun ls hl => ?_)
  refine lv_iconst (v := 1) F.1 F.2.1 dX8_put_2 (by decide) ?_
  refine lv_istore (lv' := [(4, .int (1)), (3, .int (0)), (0, .ref (ad o)), (1, .long (ch))]) F.1 F.2.1 dX8_put_3 hl (by decide) rfl (fun ls hl => ?_)
  refine lv_iconst (v := 0) F.1 F.2.1 dX8_put_5 (by decide) ?_
  refine lv_istore (lv' := [(5, .int (0)), (4, .int (1)), (3, .int (0)), (0, .ref (ad o)), (1, .long (ch))]) F.1 F.2.1 dX8_put_6 hl (by decide) rfl (fun ls hl => ?_)
  refine lv_iconst (v := 0) F.1 F.2.1 dX8_put_8 (by decide) ?_
  refine lv_istore (lv' := [(6, .int (0)), (5, .int (0)), (4, .int (1)), (3, .int (0)), (0, .ref (ad o)), (1, .long (ch))]) F.1 F.2.1 dX8_put_9 hl (by decide) rfl (fun ls hl => ?_)
  refine w_loop (Inv := fun j ls C' => ∃ (k c : Nat) (w4 w5 : Int32), j = 8 - k ∧ k ≤ 8 ∧ c ≤ k ∧ lv_has ls 8 [(6, .int (nI k)), (5, .int w5), (4, .int w4), (3, .int (nI c)), (0, .ref (ad o)), (1, .long ch)] ∧ C' = mW Y ad C o (nI k0) (nI nn) gr 0 r s0 ∧ ((w5 = 1 ∧ M_ends ch k) ∨ (w5 = 0 ∧ ¬ M_ends ch k)) ∧ ((w4 = 1 ∧ M_right ch k ∧ c = M_many ch k) ∨ (w4 = 0 ∧ ¬ M_right ch k))) ?_ 8 ⟨0, 0, 1, 0, rfl, by decide, by decide, lv_sub hl [0, 1, 2, 3, 4, 5] rfl, rfl, Or.inr ⟨rfl, id⟩, Or.inl ⟨rfl, trivial, rfl⟩⟩ hP hS
  intro j ih H locs ls K0 hInv hP hS
  obtain ⟨k, c, w4, w5, hj, hk, hck, hl, rfl, h5, h4⟩ := hInv
  refine lv_iload F.1 F.2.1 dX8_put_11 (lv_at hl 0 rfl) ?_
  refine lv_bipush (v := 8) F.1 F.2.1 dX8_put_13 (by decide) ?_
  refine lv_icmp_ge (tgt := 105) F.1 F.2.1 dX8_put_15 (by decide) (fun c1 => ?_) (fun c1 => ?_)
  · obtain rfl : k = 8 := Nat.le_antisymm hk (Nat.le_of_not_lt (fun z => nI_ge (b := 8) z (by decide) c1))
    refine lv_iload F.1 F.2.1 dX8_put_105 (lv_at hl 2 rfl) ?_
    refine lv_if_eq (tgt := 114) F.1 F.2.1 dX8_put_107 (by decide) (fun c2 => ?_) (fun c2 => ?_)
    · refine lv_bipush (v := (-2)) F.1 F.2.1 dX8_put_114 (by decide) ?_
      exact w_iret F hr hlocks hP hS dX8_put_116 (by have he : M_cnt ch = 0 := if_neg (h4.resolve_left (fun q => absurd (q.1.symm.trans c2) (by decide))).2; have hp : T_pute ch nn = -2 := if_pos he; exact ⟨fun q => absurd (hp.symm.trans q) (by decide), fun _ => ⟨hp.symm, mdl_mk hk0 hn80 hpa hhs hsl hsls hsv hpdd, mfr_0⟩⟩)
    · refine lv_iload_n F.1 F.2.1 dX8_put_110 rfl (lv_at hl 3 rfl) ?_
      refine lv_if_ne (tgt := 117) F.1 F.2.1 dX8_put_111 (by decide) (fun c3 => ?_) (fun c3 => ?_)
      · obtain ⟨-, hR, hcM⟩ := h4.resolve_right (fun q => c2 q.1)
        have hcnt : M_cnt ch = nI c := by unfold M_cnt; rw [if_pos hR, hcM]
        have hcl : (M_cnt ch).toNatClampNeg = c := by rw [hcnt]; exact nI_clamp (by omega)
        have hcz : ¬ M_cnt ch = 0 := fun q => c3 (hcnt.symm.trans q)
        refine lv_aload_n F.1 F.2.1 dX8_put_117 rfl (lv_at hl 4 rfl) ?_
        refine gf_X8_106 F hP (by omega) mW_o (v := .int (nI nn)) rfl dX8_put_118 ?_
        refine lv_iload_n F.1 F.2.1 dX8_put_121 rfl (lv_at hl 3 rfl) ?_
        refine lv_iadd F.1 F.2.1 dX8_put_122 ?_
        refine lv_bipush (v := 80) F.1 F.2.1 dX8_put_123 (by decide) ?_
        refine lv_icmp_le (tgt := 131) F.1 F.2.1 dX8_put_125 (by decide) (fun c4 => ?_) (fun c4 => ?_)
        · refine lv_iload_n F.1 F.2.1 dX8_put_131 rfl (lv_at hl 3 rfl) ?_
          refine lv_iconst (v := 1) F.1 F.2.1 dX8_put_132 (by decide) ?_
          refine lv_isub F.1 F.2.1 dX8_put_133 ?_
          refine lv_istore (lv' := [(6, .int ((nI c) - 1)), (5, .int (w5)), (4, .int (w4)), (3, .int (nI c)), (0, .ref (ad o)), (1, .long (ch))]) F.1 F.2.1 dX8_put_134 hl (by decide) rfl (fun ls hl => ?_)
          have hsum : nn + c ≤ 80 := (nI_leI (b := 80) (by omega) (by decide)).mp (by rw [← nI_add]; exact c4)
          refine w_loop (Inv := fun j ls C' => ∃ q : Nat, j = q ∧ q ≤ c ∧ lv_has ls 8 [(6, .int (nI q - 1)), (3, .int (nI c)), (0, .ref (ad o)), (1, .long ch)] ∧ C' = mW Y ad (va_up C (o + 5) (.inl (Y 0, 80, .inl (APP pd ch nn c (c - q))))) o (nI k0) (nI (nn + (c - q))) gr 0 r s0) ?_ c ⟨c, rfl, Nat.le_refl _, lv_sub hl [0, 3, 4, 5] rfl, by rw [Nat.sub_self, Nat.add_zero]; show _ = mW Y ad (va_up C (o + 5) (.inl (Y 0, 80, .inl pd))) o _ _ _ _ _ _; rw [← up_id hpdd]; rfl⟩ hP hS
          intro j2 ih2 H locs ls K1 hInv hP hS
          obtain ⟨u, hj2, huc, hl, rfl⟩ := hInv
          refine lv_iload F.1 F.2.1 dX8_put_136 (lv_at hl 0 rfl) ?_
          refine lv_if_lt (tgt := 178) F.1 F.2.1 dX8_put_138 (by decide) (fun c5 => ?_) (fun c5 => ?_)
          · obtain rfl : u = 0 := neg_q (by exact c5) (by omega)
            refine lv_aload_n F.1 F.2.1 dX8_put_178 rfl (lv_at hl 2 rfl) ?_
            refine gf_X8_106 F hP (by omega) mW_o (v := .int (nI (nn + (c - 0)))) rfl dX8_put_179 ?_
            exact w_iret F hr hlocks hP hS dX8_put_182 (by have hp : T_pute ch nn = 0 := (if_neg hcz).trans (if_pos (by rw [hcnt]; exact c4)); exact ⟨fun _ => ⟨by rw [hcl]; rfl, by rw [hcl]; exact mdl_mk hk0 (by omega) ((va_up_ne _ _ (by omega)).trans hpa) hhs ((va_up_ne _ _ (by omega)).trans hsl) hsls ((va_up_ne _ _ (by omega)).trans hsv) (va_up_self _ _ _), mfr_1 (by omega) (by omega)⟩, fun q => absurd hp q⟩)
          · obtain ⟨u, rfl⟩ : ∃ v, u = v + 1 := ⟨u - 1, by have : u ≠ 0 := fun q => c5 (by rw [q]; decide); omega⟩
            refine lv_aload_n F.1 F.2.1 dX8_put_141 rfl (lv_at hl 2 rfl) ?_
            refine gf_X8_23 F hP (by omega) mW_o (v := .ref (ad (o + 5))) rfl dX8_put_142 ?_
            refine lv_aload_n F.1 F.2.1 dX8_put_145 rfl (lv_at hl 2 rfl) ?_
            refine gf_X8_106 F hP (by omega) mW_o (v := .int (nI (nn + (c - (u + 1))))) rfl dX8_put_146 ?_
            refine lv_lload_n F.1 F.2.1 dX8_put_149 rfl (lv_at hl 3 rfl) ?_
            refine lv_bipush (v := 8) F.1 F.2.1 dX8_put_150 (by decide) ?_
            refine lv_iload F.1 F.2.1 dX8_put_152 (lv_at hl 0 rfl) ?_
            refine lv_imul F.1 F.2.1 dX8_put_154 ?_
            refine lv_lshr F.1 F.2.1 dX8_put_155 rfl ?_
            refine lv_ldc2 F.1 F.2.1 F.2.2.2.1 (F.2.2.2.2.1 _ mw_570) dX8_put_156 ?_
            refine lv_land F.1 F.2.1 dX8_put_159 ?_
            refine lv_l2i F.1 F.2.1 dX8_put_160 rfl ?_
            refine lv_topi (fun v6 ev6 => ?_)
            have ev6 : v6 = BY ch u := ev6.trans (by rw [nI_pred]; exact by_eq ch (by omega))
            subst ev6
            have hAP : upd (APP pd ch nn c (c - (u + 1))) (nn + (c - (u + 1))) (BY ch u) = APP pd ch nn c (c - u) := by rw [show c - u = c - (u + 1) + 1 by omega]; show _ = upd _ _ (BY ch (c - (c - (u + 1) + 1))); rw [show c - (c - (u + 1) + 1) = u by omega]
            refine w_iast F hI hP hS (by omega) ((mW_x (by omega) (by omega)).trans (va_up_self _ _ _)) (k := nn + (c - (u + 1))) rfl (by omega) (Nat.le_of_ble_eq_true rfl) (C1 := mW Y ad (va_up C (o + 5) (.inl (Y 0, 80, .inl (APP pd ch nn c (c - u))))) o (nI k0) (nI (nn + (c - (u + 1)))) gr 0 r s0) (fun q => by rw [hAP, mW_upx (by omega) (by omega), uu]) dX8_put_161 (fun H locs hP hS => ?_)
            refine lv_aload_n F.1 F.2.1 dX8_put_162 rfl (lv_at hl 2 rfl) ?_
            refine lv_dup F.1 F.2.1 dX8_put_163 rfl ?_
            refine gf_X8_106 F hP (by omega) mW_o (v := .int (nI (nn + (c - (u + 1))))) rfl dX8_put_164 ?_
            refine lv_iconst (v := 1) F.1 F.2.1 dX8_put_167 (by decide) ?_
            refine lv_iadd F.1 F.2.1 dX8_put_168 ?_
            refine lv_topi (fun v7 ev7 => ?_)
            have ev7 : v7 = nI (nn + (c - u)) := ev7.trans (by rw [← nI_succ]; exact congrArg nI (by omega))
            subst ev7
            refine pf_X8_106 F hI hP hS (by omega) mW_o (Nat.le_of_ble_eq_true rfl) (C1 := mW Y ad (va_up C (o + 5) (.inl (Y 0, 80, .inl (APP pd ch nn c (c - u))))) o (nI k0) (nI (nn + (c - u))) gr 0 r s0) (fun q => congrFun mW_updo q) dX8_put_169 (fun H locs hP hS => ?_)
            refine lv_iinc (v := (nI (u + 1) - 1) + (-1)) (lv' := [(6, .int ((nI (u + 1) - 1) + (-1))), (3, .int (nI c)), (0, .ref (ad o)), (1, .long (ch))]) F.1 F.2.1 dX8_put_172 hl (k := 0) rfl rfl (by decide) rfl (fun ls hl => ?_)
            refine lv_goto (tgt := 136) F.1 F.2.1 dX8_put_175 (by decide) ?_
            exact ih2 _ (by omega) _ _ _ _ ⟨u, rfl, by omega, (by rw [show nI u - 1 = nI (u + 1) - 1 + (-1) by rw [nI_pred]; exact Int32.sub_eq_add_neg _ _]; exact lv_sub hl [0, 1, 2, 3] rfl), rfl⟩ hP hS
        · refine lv_bipush (v := (-4)) F.1 F.2.1 dX8_put_128 (by decide) ?_
          exact w_iret F hr hlocks hP hS dX8_put_130 (by have hp : T_pute ch nn = -4 := (if_neg hcz).trans (if_neg (by rw [hcnt]; exact c4)); exact ⟨fun q => absurd (hp.symm.trans q) (by decide), fun _ => ⟨hp.symm, mdl_mk hk0 hn80 hpa hhs hsl hsls hsv hpdd, mfr_0⟩⟩)
      · refine lv_bipush (v := (-2)) F.1 F.2.1 dX8_put_114 (by decide) ?_
        exact w_iret F hr hlocks hP hS dX8_put_116 (by have he : M_cnt ch = 0 := (by obtain ⟨-, hR, hcM⟩ := h4.resolve_right (fun q => c2 q.1); unfold M_cnt; rw [if_pos hR, ← hcM]; exact c3); have hp : T_pute ch nn = -2 := if_pos he; exact ⟨fun q => absurd (hp.symm.trans q) (by decide), fun _ => ⟨hp.symm, mdl_mk hk0 hn80 hpa hhs hsl hsls hsv hpdd, mfr_0⟩⟩)
  · have hk1 : k < 8 := Nat.lt_of_not_le (fun q => c1 (nI_le (a := 8) q (by omega)))
    refine lv_lload_n F.1 F.2.1 dX8_put_18 rfl (lv_at hl 5 rfl) ?_
    refine lv_bipush (v := 8) F.1 F.2.1 dX8_put_19 (by decide) ?_
    refine lv_iload F.1 F.2.1 dX8_put_21 (lv_at hl 0 rfl) ?_
    refine lv_imul F.1 F.2.1 dX8_put_23 ?_
    refine lv_lshr F.1 F.2.1 dX8_put_24 rfl ?_
    refine lv_ldc2 F.1 F.2.1 F.2.2.2.1 (F.2.2.2.2.1 _ mw_570) dX8_put_25 ?_
    refine lv_land F.1 F.2.1 dX8_put_28 ?_
    refine lv_l2i F.1 F.2.1 dX8_put_29 rfl ?_
    refine lv_topi (fun v8 ev8 => ?_)
    have ev8 : v8 = BY ch k := ev8.trans (by_eq ch hk1)
    subst ev8
    refine lv_istore (lv' := [(7, .int (BY ch k)), (6, .int (nI k)), (5, .int (w5)), (4, .int (w4)), (3, .int (nI c)), (0, .ref (ad o)), (1, .long (ch))]) F.1 F.2.1 dX8_put_30 hl (by decide) rfl (fun ls hl => ?_)
    refine lv_iload F.1 F.2.1 dX8_put_32 (lv_at hl 2 rfl) ?_
    refine lv_if_ne (tgt := 42) F.1 F.2.1 dX8_put_34 (by decide) (fun c9 => ?_) (fun c9 => ?_)
    · refine lv_iconst (v := 1) F.1 F.2.1 dX8_put_42 (by decide) ?_
      refine lv_goto (tgt := 47) F.1 F.2.1 dX8_put_43 (by decide) ?_
      refine lv_istore (lv' := [(5, .int (1)), (7, .int (BY ch k)), (6, .int (nI k)), (4, .int (w4)), (3, .int (nI c)), (0, .ref (ad o)), (1, .long (ch))]) F.1 F.2.1 dX8_put_47 hl (by decide) rfl (fun ls hl => ?_)
      refine lv_iload F.1 F.2.1 dX8_put_49 (lv_at hl 3 rfl) ?_
      refine lv_if_eq (tgt := 83) F.1 F.2.1 dX8_put_51 (by decide) (fun c10 => ?_) (fun c10 => ?_)
      · refine lv_iconst (v := 0) F.1 F.2.1 dX8_put_83 (by decide) ?_
        refine lv_istore (lv' := [(4, .int (0)), (5, .int (1)), (7, .int (BY ch k)), (6, .int (nI k)), (3, .int (nI c)), (0, .ref (ad o)), (1, .long (ch))]) F.1 F.2.1 dX8_put_84 hl (by decide) rfl (fun ls hl => ?_)
        refine lv_iload_n F.1 F.2.1 dX8_put_86 rfl (lv_at hl 4 rfl) ?_
        refine lv_iload F.1 F.2.1 dX8_put_87 (lv_at hl 1 rfl) ?_
        refine lv_if_eq (tgt := 96) F.1 F.2.1 dX8_put_89 (by decide) (fun c11 => False.elim (by revert c11; decide)) (fun c11 => ?_)
        refine lv_iconst (v := 0) F.1 F.2.1 dX8_put_92 (by decide) ?_
        refine lv_goto (tgt := 97) F.1 F.2.1 dX8_put_93 (by decide) ?_
        refine lv_iadd F.1 F.2.1 dX8_put_97 ?_
        refine lv_istore_n (lv' := [(3, .int ((nI c) + 0)), (4, .int (0)), (5, .int (1)), (7, .int (BY ch k)), (6, .int (nI k)), (0, .ref (ad o)), (1, .long (ch))]) F.1 F.2.1 dX8_put_98 rfl hl (by decide) rfl (fun ls hl => ?_)
        refine lv_iinc (v := (nI k) + 1) (lv' := [(6, .int ((nI k) + 1)), (3, .int ((nI c) + 0)), (4, .int (0)), (5, .int (1)), (7, .int (BY ch k)), (0, .ref (ad o)), (1, .long (ch))]) F.1 F.2.1 dX8_put_99 hl (k := 4) rfl rfl (by decide) rfl (fun ls hl => ?_)
        refine lv_goto (tgt := 11) F.1 F.2.1 dX8_put_102 (by decide) ?_
        have hE : M_ends ch k := (h5.resolve_right (fun q => c9 q.1)).2
        have hnR : ¬ M_right ch k := (h4.resolve_left (fun q => absurd (q.1.symm.trans c10) (by decide))).2
        exact ih _ (by omega) _ _ _ _ ⟨k + 1, c, 0, 1, rfl, by omega, by omega, (by have e0 : nI c + 0 = nI c := Int32.add_zero _; rw [e0] at hl; rw [nI_succ k]; exact lv_sub hl [0, 3, 2, 1, 5, 6] rfl), rfl, Or.inl ⟨rfl, Or.inl hE⟩, Or.inr ⟨rfl, fun t => hnR t.1⟩⟩ hP hS
      · refine lv_iload F.1 F.2.1 dX8_put_54 (lv_at hl 0 rfl) ?_
        refine lv_if_eq (tgt := 67) F.1 F.2.1 dX8_put_56 (by decide) (fun c12 => False.elim (by revert c12; decide)) (fun c12 => ?_)
        refine lv_iload F.1 F.2.1 dX8_put_59 (lv_at hl 1 rfl) ?_
        refine lv_if_ne (tgt := 83) F.1 F.2.1 dX8_put_61 (by decide) (fun c13 => ?_) (fun c13 => ?_)
        · refine lv_iconst (v := 0) F.1 F.2.1 dX8_put_83 (by decide) ?_
          refine lv_istore (lv' := [(4, .int (0)), (5, .int (1)), (7, .int (BY ch k)), (6, .int (nI k)), (3, .int (nI c)), (0, .ref (ad o)), (1, .long (ch))]) F.1 F.2.1 dX8_put_84 hl (by decide) rfl (fun ls hl => ?_)
          refine lv_iload_n F.1 F.2.1 dX8_put_86 rfl (lv_at hl 4 rfl) ?_
          refine lv_iload F.1 F.2.1 dX8_put_87 (lv_at hl 1 rfl) ?_
          refine lv_if_eq (tgt := 96) F.1 F.2.1 dX8_put_89 (by decide) (fun c14 => False.elim (by revert c14; decide)) (fun c14 => ?_)
          refine lv_iconst (v := 0) F.1 F.2.1 dX8_put_92 (by decide) ?_
          refine lv_goto (tgt := 97) F.1 F.2.1 dX8_put_93 (by decide) ?_
          refine lv_iadd F.1 F.2.1 dX8_put_97 ?_
          refine lv_istore_n (lv' := [(3, .int ((nI c) + 0)), (4, .int (0)), (5, .int (1)), (7, .int (BY ch k)), (6, .int (nI k)), (0, .ref (ad o)), (1, .long (ch))]) F.1 F.2.1 dX8_put_98 rfl hl (by decide) rfl (fun ls hl => ?_)
          refine lv_iinc (v := (nI k) + 1) (lv' := [(6, .int ((nI k) + 1)), (3, .int ((nI c) + 0)), (4, .int (0)), (5, .int (1)), (7, .int (BY ch k)), (0, .ref (ad o)), (1, .long (ch))]) F.1 F.2.1 dX8_put_99 hl (k := 4) rfl rfl (by decide) rfl (fun ls hl => ?_)
          refine lv_goto (tgt := 11) F.1 F.2.1 dX8_put_102 (by decide) ?_
          have hE : M_ends ch k := (h5.resolve_right (fun q => c9 q.1)).2
          obtain ⟨-, hR, hcM⟩ := h4.resolve_right (fun q => c10 q.1)
          exact ih _ (by omega) _ _ _ _ ⟨k + 1, c, 0, 1, rfl, by omega, by omega, (by have e0 : nI c + 0 = nI c := Int32.add_zero _; rw [e0] at hl; rw [nI_succ k]; exact lv_sub hl [0, 3, 2, 1, 5, 6] rfl), rfl, Or.inl ⟨rfl, Or.inl hE⟩, Or.inr ⟨rfl, fun t => c13 (t.2.1 (Or.inl hE))⟩⟩ hP hS
        · refine lv_goto (tgt := 79) F.1 F.2.1 dX8_put_64 (by decide) ?_
          refine lv_iconst (v := 1) F.1 F.2.1 dX8_put_79 (by decide) ?_
          refine lv_goto (tgt := 84) F.1 F.2.1 dX8_put_80 (by decide) ?_
          refine lv_istore (lv' := [(4, .int (1)), (5, .int (1)), (7, .int (BY ch k)), (6, .int (nI k)), (3, .int (nI c)), (0, .ref (ad o)), (1, .long (ch))]) F.1 F.2.1 dX8_put_84 hl (by decide) rfl (fun ls hl => ?_)
          refine lv_iload_n F.1 F.2.1 dX8_put_86 rfl (lv_at hl 4 rfl) ?_
          refine lv_iload F.1 F.2.1 dX8_put_87 (lv_at hl 1 rfl) ?_
          refine lv_if_eq (tgt := 96) F.1 F.2.1 dX8_put_89 (by decide) (fun c15 => False.elim (by revert c15; decide)) (fun c15 => ?_)
          refine lv_iconst (v := 0) F.1 F.2.1 dX8_put_92 (by decide) ?_
          refine lv_goto (tgt := 97) F.1 F.2.1 dX8_put_93 (by decide) ?_
          refine lv_iadd F.1 F.2.1 dX8_put_97 ?_
          refine lv_istore_n (lv' := [(3, .int ((nI c) + 0)), (4, .int (1)), (5, .int (1)), (7, .int (BY ch k)), (6, .int (nI k)), (0, .ref (ad o)), (1, .long (ch))]) F.1 F.2.1 dX8_put_98 rfl hl (by decide) rfl (fun ls hl => ?_)
          refine lv_iinc (v := (nI k) + 1) (lv' := [(6, .int ((nI k) + 1)), (3, .int ((nI c) + 0)), (4, .int (1)), (5, .int (1)), (7, .int (BY ch k)), (0, .ref (ad o)), (1, .long (ch))]) F.1 F.2.1 dX8_put_99 hl (k := 4) rfl rfl (by decide) rfl (fun ls hl => ?_)
          refine lv_goto (tgt := 11) F.1 F.2.1 dX8_put_102 (by decide) ?_
          have hE : M_ends ch k := (h5.resolve_right (fun q => c9 q.1)).2
          obtain ⟨-, hR, hcM⟩ := h4.resolve_right (fun q => c10 q.1)
          exact ih _ (by omega) _ _ _ _ ⟨k + 1, c, 1, 1, rfl, by omega, by omega, (by have e0 : nI c + 0 = nI c := Int32.add_zero _; rw [e0] at hl; rw [nI_succ k]; exact lv_sub hl [0, 3, 2, 1, 5, 6] rfl), rfl, Or.inl ⟨rfl, Or.inl hE⟩, Or.inl ⟨rfl, ⟨hR, fun _ => c13, fun q => absurd (Or.inl hE) q⟩, hcM.trans (if_pos c13).symm⟩⟩ hP hS
    · refine lv_iload F.1 F.2.1 dX8_put_37 (lv_at hl 0 rfl) ?_
      refine lv_if_ne (tgt := 46) F.1 F.2.1 dX8_put_39 (by decide) (fun c16 => ?_) (fun c16 => ?_)
      · refine lv_iconst (v := 0) F.1 F.2.1 dX8_put_46 (by decide) ?_
        refine lv_istore (lv' := [(5, .int (0)), (7, .int (BY ch k)), (6, .int (nI k)), (4, .int (w4)), (3, .int (nI c)), (0, .ref (ad o)), (1, .long (ch))]) F.1 F.2.1 dX8_put_47 hl (by decide) rfl (fun ls hl => ?_)
        refine lv_iload F.1 F.2.1 dX8_put_49 (lv_at hl 3 rfl) ?_
        refine lv_if_eq (tgt := 83) F.1 F.2.1 dX8_put_51 (by decide) (fun c17 => ?_) (fun c17 => ?_)
        · refine lv_iconst (v := 0) F.1 F.2.1 dX8_put_83 (by decide) ?_
          refine lv_istore (lv' := [(4, .int (0)), (5, .int (0)), (7, .int (BY ch k)), (6, .int (nI k)), (3, .int (nI c)), (0, .ref (ad o)), (1, .long (ch))]) F.1 F.2.1 dX8_put_84 hl (by decide) rfl (fun ls hl => ?_)
          refine lv_iload_n F.1 F.2.1 dX8_put_86 rfl (lv_at hl 4 rfl) ?_
          refine lv_iload F.1 F.2.1 dX8_put_87 (lv_at hl 1 rfl) ?_
          refine lv_if_eq (tgt := 96) F.1 F.2.1 dX8_put_89 (by decide) (fun c18 => ?_) (fun c18 => False.elim (by revert c18; decide))
          refine lv_iconst (v := 1) F.1 F.2.1 dX8_put_96 (by decide) ?_
          refine lv_iadd F.1 F.2.1 dX8_put_97 ?_
          refine lv_istore_n (lv' := [(3, .int ((nI c) + 1)), (4, .int (0)), (5, .int (0)), (7, .int (BY ch k)), (6, .int (nI k)), (0, .ref (ad o)), (1, .long (ch))]) F.1 F.2.1 dX8_put_98 rfl hl (by decide) rfl (fun ls hl => ?_)
          refine lv_iinc (v := (nI k) + 1) (lv' := [(6, .int ((nI k) + 1)), (3, .int ((nI c) + 1)), (4, .int (0)), (5, .int (0)), (7, .int (BY ch k)), (0, .ref (ad o)), (1, .long (ch))]) F.1 F.2.1 dX8_put_99 hl (k := 4) rfl rfl (by decide) rfl (fun ls hl => ?_)
          refine lv_goto (tgt := 11) F.1 F.2.1 dX8_put_102 (by decide) ?_
          have hnE : ¬ M_ends ch k := (h5.resolve_left (fun q => absurd (q.1.symm.trans c9) (by decide))).2
          have hnR : ¬ M_right ch k := (h4.resolve_left (fun q => absurd (q.1.symm.trans c17) (by decide))).2
          exact ih _ (by omega) _ _ _ _ ⟨k + 1, c + 1, 0, 0, rfl, by omega, by omega, (by rw [nI_succ k, nI_succ c]; exact lv_sub hl [0, 3, 2, 1, 5, 6] rfl), rfl, Or.inr ⟨rfl, (fun t => t.elim hnE c16)⟩, Or.inr ⟨rfl, fun t => hnR t.1⟩⟩ hP hS
        · refine lv_iload F.1 F.2.1 dX8_put_54 (lv_at hl 0 rfl) ?_
          refine lv_if_eq (tgt := 67) F.1 F.2.1 dX8_put_56 (by decide) (fun c19 => ?_) (fun c19 => False.elim (by revert c19; decide))
          refine lv_iload F.1 F.2.1 dX8_put_67 (lv_at hl 1 rfl) ?_
          refine lv_bipush (v := 33) F.1 F.2.1 dX8_put_69 (by decide) ?_
          refine lv_bipush (v := 126) F.1 F.2.1 dX8_put_71 (by decide) ?_
          refine w_calls F hP hS (c_X8_in l D Y ad N hI _ (BY ch k) 33 126) (cwSm 3 F.2.2.2.2.1 (fun _ h => h) mw_183 mw_181 mw_182 mw_5 rfl rfl ydX8_in ⟨by decide, by decide⟩) rfl hl.1 rfl (Nat.le_of_ble_eq_true rfl) dX8_put_73 ⟨Nat.zero_le _, Nat.zero_le _⟩ (fun rq20 Kq20 H locs hq20 hP hS => ?_)
          obtain ⟨hq20w, hq20r⟩ := hq20; rw [hq20w] at hP
          refine lv_if_eq (tgt := 83) F.1 F.2.1 dX8_put_76 (by decide) (fun c21 => ?_) (fun c21 => ?_)
          · refine lv_iconst (v := 0) F.1 F.2.1 dX8_put_83 (by decide) ?_
            refine lv_istore (lv' := [(4, .int (0)), (5, .int (0)), (7, .int (BY ch k)), (6, .int (nI k)), (3, .int (nI c)), (0, .ref (ad o)), (1, .long (ch))]) F.1 F.2.1 dX8_put_84 hl (by decide) rfl (fun ls hl => ?_)
            refine lv_iload_n F.1 F.2.1 dX8_put_86 rfl (lv_at hl 4 rfl) ?_
            refine lv_iload F.1 F.2.1 dX8_put_87 (lv_at hl 1 rfl) ?_
            refine lv_if_eq (tgt := 96) F.1 F.2.1 dX8_put_89 (by decide) (fun c22 => ?_) (fun c22 => False.elim (by revert c22; decide))
            refine lv_iconst (v := 1) F.1 F.2.1 dX8_put_96 (by decide) ?_
            refine lv_iadd F.1 F.2.1 dX8_put_97 ?_
            refine lv_istore_n (lv' := [(3, .int ((nI c) + 1)), (4, .int (0)), (5, .int (0)), (7, .int (BY ch k)), (6, .int (nI k)), (0, .ref (ad o)), (1, .long (ch))]) F.1 F.2.1 dX8_put_98 rfl hl (by decide) rfl (fun ls hl => ?_)
            refine lv_iinc (v := (nI k) + 1) (lv' := [(6, .int ((nI k) + 1)), (3, .int ((nI c) + 1)), (4, .int (0)), (5, .int (0)), (7, .int (BY ch k)), (0, .ref (ad o)), (1, .long (ch))]) F.1 F.2.1 dX8_put_99 hl (k := 4) rfl rfl (by decide) rfl (fun ls hl => ?_)
            refine lv_goto (tgt := 11) F.1 F.2.1 dX8_put_102 (by decide) ?_
            have hnE : ¬ M_ends ch k := (h5.resolve_left (fun q => absurd (q.1.symm.trans c9) (by decide))).2
            obtain ⟨-, hR, hcM⟩ := h4.resolve_right (fun q => c17 q.1)
            exact ih _ (by omega) _ _ _ _ ⟨k + 1, c + 1, 0, 0, rfl, by omega, by omega, (by rw [nI_succ k, nI_succ c]; exact lv_sub hl [0, 3, 2, 1, 5, 6] rfl), rfl, Or.inr ⟨rfl, (fun t => t.elim hnE c16)⟩, Or.inr ⟨rfl, fun t => (b_f hq20r c21) (t.2.2 (fun t => t.elim hnE c16))⟩⟩ hP hS
          · refine lv_iconst (v := 1) F.1 F.2.1 dX8_put_79 (by decide) ?_
            refine lv_goto (tgt := 84) F.1 F.2.1 dX8_put_80 (by decide) ?_
            refine lv_istore (lv' := [(4, .int (1)), (5, .int (0)), (7, .int (BY ch k)), (6, .int (nI k)), (3, .int (nI c)), (0, .ref (ad o)), (1, .long (ch))]) F.1 F.2.1 dX8_put_84 hl (by decide) rfl (fun ls hl => ?_)
            refine lv_iload_n F.1 F.2.1 dX8_put_86 rfl (lv_at hl 4 rfl) ?_
            refine lv_iload F.1 F.2.1 dX8_put_87 (lv_at hl 1 rfl) ?_
            refine lv_if_eq (tgt := 96) F.1 F.2.1 dX8_put_89 (by decide) (fun c23 => ?_) (fun c23 => False.elim (by revert c23; decide))
            refine lv_iconst (v := 1) F.1 F.2.1 dX8_put_96 (by decide) ?_
            refine lv_iadd F.1 F.2.1 dX8_put_97 ?_
            refine lv_istore_n (lv' := [(3, .int ((nI c) + 1)), (4, .int (1)), (5, .int (0)), (7, .int (BY ch k)), (6, .int (nI k)), (0, .ref (ad o)), (1, .long (ch))]) F.1 F.2.1 dX8_put_98 rfl hl (by decide) rfl (fun ls hl => ?_)
            refine lv_iinc (v := (nI k) + 1) (lv' := [(6, .int ((nI k) + 1)), (3, .int ((nI c) + 1)), (4, .int (1)), (5, .int (0)), (7, .int (BY ch k)), (0, .ref (ad o)), (1, .long (ch))]) F.1 F.2.1 dX8_put_99 hl (k := 4) rfl rfl (by decide) rfl (fun ls hl => ?_)
            refine lv_goto (tgt := 11) F.1 F.2.1 dX8_put_102 (by decide) ?_
            have hnE : ¬ M_ends ch k := (h5.resolve_left (fun q => absurd (q.1.symm.trans c9) (by decide))).2
            obtain ⟨-, hR, hcM⟩ := h4.resolve_right (fun q => c17 q.1)
            exact ih _ (by omega) _ _ _ _ ⟨k + 1, c + 1, 1, 0, rfl, by omega, by omega, (by rw [nI_succ k, nI_succ c]; exact lv_sub hl [0, 3, 2, 1, 5, 6] rfl), rfl, Or.inr ⟨rfl, (fun t => t.elim hnE c16)⟩, Or.inl ⟨rfl, ⟨hR, fun q => absurd q (fun t => t.elim hnE c16), fun _ => b_t hq20r c21⟩, (congrArg (· + 1) hcM).trans (if_neg c16).symm⟩⟩ hP hS
      · refine lv_iconst (v := 1) F.1 F.2.1 dX8_put_42 (by decide) ?_
        refine lv_goto (tgt := 47) F.1 F.2.1 dX8_put_43 (by decide) ?_
        refine lv_istore (lv' := [(5, .int (1)), (7, .int (BY ch k)), (6, .int (nI k)), (4, .int (w4)), (3, .int (nI c)), (0, .ref (ad o)), (1, .long (ch))]) F.1 F.2.1 dX8_put_47 hl (by decide) rfl (fun ls hl => ?_)
        refine lv_iload F.1 F.2.1 dX8_put_49 (lv_at hl 3 rfl) ?_
        refine lv_if_eq (tgt := 83) F.1 F.2.1 dX8_put_51 (by decide) (fun c24 => ?_) (fun c24 => ?_)
        · refine lv_iconst (v := 0) F.1 F.2.1 dX8_put_83 (by decide) ?_
          refine lv_istore (lv' := [(4, .int (0)), (5, .int (1)), (7, .int (BY ch k)), (6, .int (nI k)), (3, .int (nI c)), (0, .ref (ad o)), (1, .long (ch))]) F.1 F.2.1 dX8_put_84 hl (by decide) rfl (fun ls hl => ?_)
          refine lv_iload_n F.1 F.2.1 dX8_put_86 rfl (lv_at hl 4 rfl) ?_
          refine lv_iload F.1 F.2.1 dX8_put_87 (lv_at hl 1 rfl) ?_
          refine lv_if_eq (tgt := 96) F.1 F.2.1 dX8_put_89 (by decide) (fun c25 => False.elim (by revert c25; decide)) (fun c25 => ?_)
          refine lv_iconst (v := 0) F.1 F.2.1 dX8_put_92 (by decide) ?_
          refine lv_goto (tgt := 97) F.1 F.2.1 dX8_put_93 (by decide) ?_
          refine lv_iadd F.1 F.2.1 dX8_put_97 ?_
          refine lv_istore_n (lv' := [(3, .int ((nI c) + 0)), (4, .int (0)), (5, .int (1)), (7, .int (BY ch k)), (6, .int (nI k)), (0, .ref (ad o)), (1, .long (ch))]) F.1 F.2.1 dX8_put_98 rfl hl (by decide) rfl (fun ls hl => ?_)
          refine lv_iinc (v := (nI k) + 1) (lv' := [(6, .int ((nI k) + 1)), (3, .int ((nI c) + 0)), (4, .int (0)), (5, .int (1)), (7, .int (BY ch k)), (0, .ref (ad o)), (1, .long (ch))]) F.1 F.2.1 dX8_put_99 hl (k := 4) rfl rfl (by decide) rfl (fun ls hl => ?_)
          refine lv_goto (tgt := 11) F.1 F.2.1 dX8_put_102 (by decide) ?_
          have hnE : ¬ M_ends ch k := (h5.resolve_left (fun q => absurd (q.1.symm.trans c9) (by decide))).2
          have hnR : ¬ M_right ch k := (h4.resolve_left (fun q => absurd (q.1.symm.trans c24) (by decide))).2
          exact ih _ (by omega) _ _ _ _ ⟨k + 1, c, 0, 1, rfl, by omega, by omega, (by have e0 : nI c + 0 = nI c := Int32.add_zero _; rw [e0] at hl; rw [nI_succ k]; exact lv_sub hl [0, 3, 2, 1, 5, 6] rfl), rfl, Or.inl ⟨rfl, Or.inr c16⟩, Or.inr ⟨rfl, fun t => hnR t.1⟩⟩ hP hS
        · refine lv_iload F.1 F.2.1 dX8_put_54 (lv_at hl 0 rfl) ?_
          refine lv_if_eq (tgt := 67) F.1 F.2.1 dX8_put_56 (by decide) (fun c26 => False.elim (by revert c26; decide)) (fun c26 => ?_)
          refine lv_iload F.1 F.2.1 dX8_put_59 (lv_at hl 1 rfl) ?_
          refine lv_if_ne (tgt := 83) F.1 F.2.1 dX8_put_61 (by decide) (fun c27 => ?_) (fun c27 => ?_)
          · refine lv_iconst (v := 0) F.1 F.2.1 dX8_put_83 (by decide) ?_
            refine lv_istore (lv' := [(4, .int (0)), (5, .int (1)), (7, .int (BY ch k)), (6, .int (nI k)), (3, .int (nI c)), (0, .ref (ad o)), (1, .long (ch))]) F.1 F.2.1 dX8_put_84 hl (by decide) rfl (fun ls hl => ?_)
            refine lv_iload_n F.1 F.2.1 dX8_put_86 rfl (lv_at hl 4 rfl) ?_
            refine lv_iload F.1 F.2.1 dX8_put_87 (lv_at hl 1 rfl) ?_
            refine lv_if_eq (tgt := 96) F.1 F.2.1 dX8_put_89 (by decide) (fun c28 => False.elim (by revert c28; decide)) (fun c28 => ?_)
            refine lv_iconst (v := 0) F.1 F.2.1 dX8_put_92 (by decide) ?_
            refine lv_goto (tgt := 97) F.1 F.2.1 dX8_put_93 (by decide) ?_
            refine lv_iadd F.1 F.2.1 dX8_put_97 ?_
            refine lv_istore_n (lv' := [(3, .int ((nI c) + 0)), (4, .int (0)), (5, .int (1)), (7, .int (BY ch k)), (6, .int (nI k)), (0, .ref (ad o)), (1, .long (ch))]) F.1 F.2.1 dX8_put_98 rfl hl (by decide) rfl (fun ls hl => ?_)
            refine lv_iinc (v := (nI k) + 1) (lv' := [(6, .int ((nI k) + 1)), (3, .int ((nI c) + 0)), (4, .int (0)), (5, .int (1)), (7, .int (BY ch k)), (0, .ref (ad o)), (1, .long (ch))]) F.1 F.2.1 dX8_put_99 hl (k := 4) rfl rfl (by decide) rfl (fun ls hl => ?_)
            refine lv_goto (tgt := 11) F.1 F.2.1 dX8_put_102 (by decide) ?_
            have hnE : ¬ M_ends ch k := (h5.resolve_left (fun q => absurd (q.1.symm.trans c9) (by decide))).2
            obtain ⟨-, hR, hcM⟩ := h4.resolve_right (fun q => c24 q.1)
            exact ih _ (by omega) _ _ _ _ ⟨k + 1, c, 0, 1, rfl, by omega, by omega, (by have e0 : nI c + 0 = nI c := Int32.add_zero _; rw [e0] at hl; rw [nI_succ k]; exact lv_sub hl [0, 3, 2, 1, 5, 6] rfl), rfl, Or.inl ⟨rfl, Or.inr c16⟩, Or.inr ⟨rfl, fun t => c27 (t.2.1 (Or.inr c16))⟩⟩ hP hS
          · refine lv_goto (tgt := 79) F.1 F.2.1 dX8_put_64 (by decide) ?_
            refine lv_iconst (v := 1) F.1 F.2.1 dX8_put_79 (by decide) ?_
            refine lv_goto (tgt := 84) F.1 F.2.1 dX8_put_80 (by decide) ?_
            refine lv_istore (lv' := [(4, .int (1)), (5, .int (1)), (7, .int (BY ch k)), (6, .int (nI k)), (3, .int (nI c)), (0, .ref (ad o)), (1, .long (ch))]) F.1 F.2.1 dX8_put_84 hl (by decide) rfl (fun ls hl => ?_)
            refine lv_iload_n F.1 F.2.1 dX8_put_86 rfl (lv_at hl 4 rfl) ?_
            refine lv_iload F.1 F.2.1 dX8_put_87 (lv_at hl 1 rfl) ?_
            refine lv_if_eq (tgt := 96) F.1 F.2.1 dX8_put_89 (by decide) (fun c29 => False.elim (by revert c29; decide)) (fun c29 => ?_)
            refine lv_iconst (v := 0) F.1 F.2.1 dX8_put_92 (by decide) ?_
            refine lv_goto (tgt := 97) F.1 F.2.1 dX8_put_93 (by decide) ?_
            refine lv_iadd F.1 F.2.1 dX8_put_97 ?_
            refine lv_istore_n (lv' := [(3, .int ((nI c) + 0)), (4, .int (1)), (5, .int (1)), (7, .int (BY ch k)), (6, .int (nI k)), (0, .ref (ad o)), (1, .long (ch))]) F.1 F.2.1 dX8_put_98 rfl hl (by decide) rfl (fun ls hl => ?_)
            refine lv_iinc (v := (nI k) + 1) (lv' := [(6, .int ((nI k) + 1)), (3, .int ((nI c) + 0)), (4, .int (1)), (5, .int (1)), (7, .int (BY ch k)), (0, .ref (ad o)), (1, .long (ch))]) F.1 F.2.1 dX8_put_99 hl (k := 4) rfl rfl (by decide) rfl (fun ls hl => ?_)
            refine lv_goto (tgt := 11) F.1 F.2.1 dX8_put_102 (by decide) ?_
            have hnE : ¬ M_ends ch k := (h5.resolve_left (fun q => absurd (q.1.symm.trans c9) (by decide))).2
            obtain ⟨-, hR, hcM⟩ := h4.resolve_right (fun q => c24 q.1)
            exact ih _ (by omega) _ _ _ _ ⟨k + 1, c, 1, 1, rfl, by omega, by omega, (by have e0 : nI c + 0 = nI c := Int32.add_zero _; rw [e0] at hl; rw [nI_succ k]; exact lv_sub hl [0, 3, 2, 1, 5, 6] rfl), rfl, Or.inl ⟨rfl, Or.inr c16⟩, Or.inl ⟨rfl, ⟨hR, fun _ => c27, fun q => absurd (Or.inr c16) q⟩, hcM.trans (if_pos c27).symm⟩⟩ hP hS
theorem cm_X8_put (l : Launch) (D : va_G) (Y : Nat → ClassId) (ad : Nat → Nat) (N : Nat) (hI : wI ad N) (C : Nat → va_E) (o : Nat) (hh : o + 6 ≤ N) (f : Nat → Int32) (hs : Nat → Nat → Int32) (kn : Nat) (sl : Nat → Nat → Int32) (sv pd : Nat → Int32) (n : Nat) (hA : mdlA Y ad C o f hs kn sl sv pd n) (ch : Int64) : Met l yX8_put (wm yX8_put cX8_put 8 (some .int)) { frames := 1, cells := 0, slots := 0, locals := 22 } (wPc D Y ad N [.ref (ad o), .long (ch)] C) (wQi D ad N (fun q C' => (T_pute ch n = 0 → q = nI (n + (M_cnt ch).toNatClampNeg) ∧ mdlA Y ad C' o f hs kn sl sv (APP pd ch n (M_cnt ch).toNatClampNeg (M_cnt ch).toNatClampNeg) (n + (M_cnt ch).toNatClampNeg) ∧ ∀ j, j < o ∨ o + 6 ≤ j → C' j = C j) ∧ (¬ T_pute ch n = 0 → q = T_pute ch n ∧ mdlA Y ad C' o f hs kn sl sv pd n ∧ ∀ j, j < o ∨ o + 6 ≤ j → C' j = C j))) 0 0 (wA ad N) := by
  obtain ⟨s0, pa, sla, gr, h1, h2, h3, h4, h5, h6, h7, h8, h9, h10⟩ := hA
  have h := c_X8_put l D Y ad N hI C o hh gr f s0 kn h3 hs pa h5 h6 sl sla sv h7 h8 h9 pd n h4 h10 ch
  rw [← mW_id h1 h2] at h
  exact h
