/-! HoopStairsModel: the row beside, what was before, parts -/
section MW
variable {Y : Nat → ClassId} {ad : Nat → Nat} {C : Nat → va_E} {o : Nat} {kn n gr : Int32} {r g s0 s1 : Nat → Int32}
theorem mW_updb {K : Nat} {v : Int32} (h : 161 ≤ K) : va_up (mW Y ad C o kn n gr 0 r s0) (o + 1) (.inl (Y 0, 322, .inl (upd (put 0 r s0) K v))) = mW Y ad C o kn n gr 0 r (upd s0 K v) := by
  have e : upd (put 0 r s0) K v = put 0 r (upd s0 K v) := by
    funext j
    by_cases a : j = K
    · subst a
      rw [upd_s]
      unfold put
      rw [if_neg (by omega), upd_s]
    · rw [upd_n a]
      unfold put
      by_cases b : 0 ≤ j ∧ j < 0 + 161
      · rw [if_pos b, if_pos b]
      · rw [if_neg b, if_neg b, upd_n a]
  rw [e]
  exact uu
theorem put_out {K : Nat} (h : 161 ≤ K) : put 0 r s0 K = s0 K := if_neg (by omega)
theorem mW_there (h : ∀ i, i < 161 → s1 (161 + i) = r i) : mW Y ad C o kn n gr 0 r s1 = mW Y ad C o kn n gr 161 r (put 0 r s1) := by
  have e : put 0 r s1 = put 161 r (put 0 r s1) := by
    funext j
    show _ = (if 161 ≤ j ∧ j < 161 + 161 then r (j - 161) else put 0 r s1 j)
    by_cases b : 161 ≤ j ∧ j < 161 + 161
    · rw [if_pos b, put_out b.1, ← h (j - 161) (by omega), show 161 + (j - 161) = j by omega]
    · rw [if_neg b]
  unfold mW sA
  rw [← e]
theorem mW_back (h : ∀ j, j < 161 → s1 j = r j) : mW Y ad C o kn n gr 161 g s1 = mW Y ad C o kn n gr 0 r (put 161 g s1) := by
  have e : put 161 g s1 = put 0 r (put 161 g s1) := by
    funext j
    show _ = (if 0 ≤ j ∧ j < 0 + 161 then r (j - 0) else put 161 g s1 j)
    by_cases b : 0 ≤ j ∧ j < 0 + 161
    · rw [if_pos b, Nat.sub_zero, ← h j (by omega)]
      exact if_neg (by omega)
    · rw [if_neg b]
  unfold mW sA
  rw [← e]
end MW
abbrev pA (Y : Nat → ClassId) (pa : Nat → Int32) : va_E := .inl (Y 0, 966, .inl pa)
set_option maxRecDepth 20000 in
set_option maxHeartbeats 4000000 in
/-- the row beside -/
theorem c_X8_copies (l : Launch) (D : va_G) (Y : Nat → ClassId) (ad : Nat → Nat) (N : Nat) (hI : wI ad N) (C : Nat → va_E) (o : Nat) (hh : o + 6 ≤ N) (kn n gr : Int32) (r s0 : Nat → Int32) : Met l yX8_copies (wm yX8_copies cX8_copies 2 none) { frames := 0, cells := 0, slots := 0, locals := 0 } (wPc D Y ad N [.ref (ad o)] (mW Y ad C o kn n gr 0 r s0)) (wQv D ad N (fun C' => ∃ s1, C' = mW Y ad C o kn n gr 161 r s1 ∧ ∀ j, j < 161 → s1 j = r j)) 0 0 (wA ad N) := by
  refine wMet RX8 rfl (by decide +kernel) (Nat.le_of_ble_eq_true rfl) (lv := [(0, .ref (ad o))]) rfl ?_
  intro p e s m below meth c ls F hr hlocks hP hl
  have hS : va_S (wA ad N) s.heap s.heap [] := va_S.rf
  refine lv_iconst (v := 0) F.1 F.2.1 dX8_copies_0 (by decide) ?_
  refine lv_istore_n (lv' := [(1, .int (0)), (0, .ref (ad o))]) F.1 F.2.1 dX8_copies_1 rfl hl (by decide) rfl (fun ls hl => ?_)
  refine w_loop (Inv := fun j ls C' => ∃ (k : Nat) (s1 : Nat → Int32), j = 161 - k ∧ k ≤ 161 ∧ lv_has ls 2 [(1, .int (nI k)), (0, .ref (ad o))] ∧ C' = mW Y ad C o kn n gr 0 r s1 ∧ ∀ i, i < k → s1 (161 + i) = r i) ?_ 161 ⟨0, s0, rfl, by decide, lv_sub hl [0, 1] rfl, rfl, fun i hi => absurd hi (Nat.not_lt_zero _)⟩ hP hS
  intro j ih H locs ls K0 hInv hP hS
  obtain ⟨k, s1, hj, hk, hl, rfl, hW⟩ := hInv
  refine lv_iload_n F.1 F.2.1 dX8_copies_2 rfl (lv_at hl 0 rfl) ?_
  refine lv_sipush (v := 161) F.1 F.2.1 dX8_copies_3 (by decide) ?_
  refine lv_icmp_ge (tgt := 31) F.1 F.2.1 dX8_copies_6 (by decide) (fun c1 => ?_) (fun c1 => ?_)
  · exact w_vret F hr hlocks hP hS dX8_copies_31 (by have hk1 : k = 161 := Nat.le_antisymm hk (Nat.le_of_not_lt (fun z => nI_ge (b := 161) z (by decide) c1)); subst hk1; exact ⟨_, mW_there hW, fun j hj => put_at (by omega) hj⟩)
  · have hk1 : k < 161 := Nat.lt_of_not_le (fun q => c1 (nI_le (a := 161) q (by omega)))
    refine lv_aload_n F.1 F.2.1 dX8_copies_9 rfl (lv_at hl 1 rfl) ?_
    refine gf_X8_7 F hP (by omega) mW_o (v := .ref (ad (o + 1))) rfl dX8_copies_10 ?_
    refine lv_sipush (v := 161) F.1 F.2.1 dX8_copies_13 (by decide) ?_
    refine lv_iload_n F.1 F.2.1 dX8_copies_16 rfl (lv_at hl 0 rfl) ?_
    refine lv_iadd F.1 F.2.1 dX8_copies_17 ?_
    refine lv_aload_n F.1 F.2.1 dX8_copies_18 rfl (lv_at hl 1 rfl) ?_
    refine gf_X8_7 F hP (by omega) mW_o (v := .ref (ad (o + 1))) rfl dX8_copies_19 ?_
    refine lv_iload_n F.1 F.2.1 dX8_copies_22 rfl (lv_at hl 0 rfl) ?_
    refine w_iald F hP (by omega) mW_s (k := k) rfl (by omega) (Nat.le_of_ble_eq_true rfl) (v := r k) (put_at (k := k) (by omega) (by omega)) dX8_copies_23 ?_
    refine w_iast F hI hP hS (by omega) mW_s (k := 161 + k) (ix_add (X := 161) (Y := k) (Z := 161 + k) rfl rfl (by omega)) (by omega) (Nat.le_of_ble_eq_true rfl) (C1 := mW Y ad C o kn n gr 0 r (upd s1 (161 + k) (r k))) (fun q => congrFun (mW_updb (by omega)) q) dX8_copies_24 (fun H locs hP hS => ?_)
    refine lv_iinc (v := (nI k) + 1) (lv' := [(1, .int ((nI k) + 1)), (0, .ref (ad o))]) F.1 F.2.1 dX8_copies_25 hl (k := 0) rfl rfl (by decide) rfl (fun ls hl => ?_)
    refine lv_goto (tgt := 2) F.1 F.2.1 dX8_copies_28 (by decide) ?_
    exact ih _ (by omega) _ _ _ _ ⟨k + 1, _, rfl, by omega, (by rw [nI_succ]; exact lv_sub hl [0, 1] rfl), rfl, fun i hi => (by by_cases a : i = k; (subst a; exact upd_s); (rw [upd_n (by omega)]; exact hW i (by omega)))⟩ hP hS
theorem rec_1 {f pa pa1 pa2 : Nat → Int32} {hs : Nat → Nat → Int32} (hh : ∀ i j, i < 6 → j < 161 → pa (161 * i + j) = hs i j) (h1 : ∀ i, i < 805 → pa1 i = pa (161 + i)) (h2 : ∀ i, i < 161 → pa2 (161 * 5 + i) = f i) (h3 : ∀ i, i < 161 * 5 → pa2 i = pa1 i) : ∀ i j, i < K_rec 6 → j < 161 → pa2 (161 * i + j) = H_rec f hs 6 i j := by
  intro i j hi hj
  have hi6 : i < 6 := hi
  show _ = (if 6 = 6 then (if i < 5 then hs (i + 1) else f) else (if i = 6 then f else hs i)) j
  rw [if_pos rfl]
  by_cases a : i < 5
  · rw [if_pos a, h3 _ (by omega), h1 _ (by omega), show 161 + (161 * i + j) = 161 * (i + 1) + j by omega, hh _ _ (by omega) hj]
  · rw [if_neg a, show i = 5 by omega, h2 _ hj]
theorem rec_2 {f pa pa2 : Nat → Int32} {hs : Nat → Nat → Int32} {q : Nat} (hq : q ≠ 6) (hh : ∀ i j, i < q → j < 161 → pa (161 * i + j) = hs i j) (h2 : ∀ i, i < 161 → pa2 (161 * q + i) = f i) (h3 : ∀ i, i < 161 * q → pa2 i = pa i) : ∀ i j, i < K_rec q → j < 161 → pa2 (161 * i + j) = H_rec f hs q i j := by
  intro i j hi hj
  unfold K_rec at hi
  rw [if_neg hq] at hi
  unfold H_rec
  rw [if_neg hq]
  by_cases a : i = q
  · rw [if_pos a, a, h2 _ hj]
  · have : 161 * i + j < 161 * q := by
      have : i + 1 ≤ q := by omega
      have := Nat.mul_le_mul_left 161 this
      omega
    rw [if_neg a, h3 _ this, hh _ _ (by omega) hj]
set_option maxRecDepth 20000 in
set_option maxHeartbeats 4000000 in
/-- the state is remembered -/
theorem c_X8_remembers (l : Launch) (D : va_G) (Y : Nat → ClassId) (ad : Nat → Nat) (N : Nat) (hI : wI ad N) (C : Nat → va_E) (o : Nat) (hh : o + 6 ≤ N) (n gr : Int32) (r s0 : Nat → Int32) (k0 : Nat) (hk0 : k0 ≤ 6) (hs : Nat → Nat → Int32) (pa : Nat → Int32) (hpa : C (o + 2) = pA Y pa) (hhs : ∀ i j, i < k0 → j < 161 → pa (161 * i + j) = hs i j) : Met l yX8_remembers (wm yX8_remembers cX8_remembers 2 none) { frames := 0, cells := 0, slots := 0, locals := 0 } (wPc D Y ad N [.ref (ad o)] (mW Y ad C o (nI k0) n gr 0 r s0)) (wQv D ad N (fun C' => ∃ pa', C' = mW Y ad (va_up C (o + 2) (pA Y pa')) o (nI (K_rec k0)) n gr 0 r s0 ∧ ∀ i j, i < K_rec k0 → j < 161 → pa' (161 * i + j) = H_rec r hs k0 i j)) 0 0 (wA ad N) := by
  refine wMet RX8 rfl (by decide +kernel) (Nat.le_of_ble_eq_true rfl) (lv := [(0, .ref (ad o))]) rfl ?_
  intro p e s m below meth c ls F hr hlocks hP hl
  have hS : va_S (wA ad N) s.heap s.heap [] := va_S.rf
  refine lv_aload_n F.1 F.2.1 dX8_remembers_0 rfl (lv_at hl 0 rfl) ?_
  refine gf_X8_30 F hP (by omega) mW_o (v := .int (nI k0)) rfl dX8_remembers_1 ?_
  refine lv_bipush (v := 6) F.1 F.2.1 dX8_remembers_4 (by decide) ?_
  refine lv_icmp_ne (tgt := 50) F.1 F.2.1 dX8_remembers_6 (by decide) (fun c1 => ?_) (fun c1 => ?_)
  · refine lv_iconst (v := 0) F.1 F.2.1 dX8_remembers_50 (by decide) ?_
    refine lv_istore_n (lv' := [(1, .int (0)), (0, .ref (ad o))]) F.1 F.2.1 dX8_remembers_51 rfl hl (by decide) rfl (fun ls hl => ?_)
    have hk6 : k0 ≠ 6 := fun z => c1 (by rw [z]; rfl)
    refine w_loop (Inv := fun j ls C' => ∃ (i : Nat) (pa2 : Nat → Int32), j = 161 - i ∧ i ≤ 161 ∧ lv_has ls 2 [(1, .int (nI i)), (0, .ref (ad o))] ∧ C' = mW Y ad (va_up C (o + 2) (pA Y pa2)) o (nI k0) n gr 0 r s0 ∧ (∀ j, j < i → pa2 (161 * k0 + j) = r j) ∧ ∀ j, j < 161 * k0 → pa2 j = pa j) ?_ 161 ⟨0, pa, rfl, by decide, lv_sub hl [0, 1] rfl, by rw [← up_id hpa], fun i hi => absurd hi (Nat.not_lt_zero _), fun _ _ => rfl⟩ hP hS
    intro j ih H locs ls K0 hInv hP hS
    obtain ⟨i, pa2, hj, hi, hl, rfl, h2, h3⟩ := hInv
    refine lv_iload_n F.1 F.2.1 dX8_remembers_52 rfl (lv_at hl 0 rfl) ?_
    refine lv_sipush (v := 161) F.1 F.2.1 dX8_remembers_53 (by decide) ?_
    refine lv_icmp_ge (tgt := 86) F.1 F.2.1 dX8_remembers_56 (by decide) (fun c2 => ?_) (fun c2 => ?_)
    · obtain rfl : i = 161 := Nat.le_antisymm hi (Nat.le_of_not_lt (fun z => nI_ge (b := 161) z (by decide) c2))
      refine lv_aload_n F.1 F.2.1 dX8_remembers_86 rfl (lv_at hl 1 rfl) ?_
      refine lv_dup F.1 F.2.1 dX8_remembers_87 rfl ?_
      refine gf_X8_30 F hP (by omega) mW_o (v := .int (nI k0)) rfl dX8_remembers_88 ?_
      refine lv_iconst (v := 1) F.1 F.2.1 dX8_remembers_91 (by decide) ?_
      refine lv_iadd F.1 F.2.1 dX8_remembers_92 ?_
      refine lv_topi (fun v3 ev3 => ?_)
      have ev3 : v3 = nI (k0 + 1) := ev3.trans (nI_succ k0).symm
      subst ev3
      refine pf_X8_30 F hI hP hS (by omega) mW_o (Nat.le_of_ble_eq_true rfl) (C1 := mW Y ad (va_up C (o + 2) (pA Y pa2)) o (nI (k0 + 1)) n gr 0 r s0) (fun q => congrFun mW_updo q) dX8_remembers_93 (fun H locs hP hS => ?_)
      exact w_vret F hr hlocks hP hS dX8_remembers_96 (by exact ⟨pa2, by rw [show K_rec k0 = k0 + 1 from if_neg hk6], rec_2 hk6 hhs h2 h3⟩)
    · have hk1 : i < 161 := Nat.lt_of_not_le (fun q => c2 (nI_le (a := 161) q (by omega)))
      refine lv_aload_n F.1 F.2.1 dX8_remembers_59 rfl (lv_at hl 1 rfl) ?_
      refine gf_X8_13 F hP (by omega) mW_o (v := .ref (ad (o + 2))) rfl dX8_remembers_60 ?_
      refine lv_sipush (v := 161) F.1 F.2.1 dX8_remembers_63 (by decide) ?_
      refine lv_aload_n F.1 F.2.1 dX8_remembers_66 rfl (lv_at hl 1 rfl) ?_
      refine gf_X8_30 F hP (by omega) mW_o (v := .int (nI k0)) rfl dX8_remembers_67 ?_
      refine lv_imul F.1 F.2.1 dX8_remembers_70 ?_
      refine lv_iload_n F.1 F.2.1 dX8_remembers_71 rfl (lv_at hl 0 rfl) ?_
      refine lv_iadd F.1 F.2.1 dX8_remembers_72 ?_
      refine lv_aload_n F.1 F.2.1 dX8_remembers_73 rfl (lv_at hl 1 rfl) ?_
      refine gf_X8_7 F hP (by omega) mW_o (v := .ref (ad (o + 1))) rfl dX8_remembers_74 ?_
      refine lv_iload_n F.1 F.2.1 dX8_remembers_77 rfl (lv_at hl 0 rfl) ?_
      refine w_iald F hP (by omega) mW_s (k := i) rfl (by omega) (Nat.le_of_ble_eq_true rfl) (v := r i) (put_at (k := i) (by omega) (by omega)) dX8_remembers_78 ?_
      refine w_iast F hI hP hS (by omega) ((mW_x (by omega) (by omega)).trans (va_up_self _ _ _)) (k := 161 * k0 + i) (ix_add (X := 161 * k0) (Y := i) (Z := 161 * k0 + i) (ix_mul (X := 161) (Y := k0) rfl rfl) rfl (by omega)) (by omega) (Nat.le_of_ble_eq_true rfl) (C1 := mW Y ad (va_up C (o + 2) (pA Y (upd pa2 (161 * k0 + i) (r i)))) o (nI k0) n gr 0 r s0) (fun q => by rw [mW_upx (by omega) (by omega), uu]) dX8_remembers_79 (fun H locs hP hS => ?_)
      refine lv_iinc (v := (nI i) + 1) (lv' := [(1, .int ((nI i) + 1)), (0, .ref (ad o))]) F.1 F.2.1 dX8_remembers_80 hl (k := 0) rfl rfl (by decide) rfl (fun ls hl => ?_)
      refine lv_goto (tgt := 52) F.1 F.2.1 dX8_remembers_83 (by decide) ?_
      exact ih _ (by omega) _ _ _ _ ⟨i + 1, _, rfl, by omega, (by rw [nI_succ]; exact lv_sub hl [0, 1] rfl), rfl, fun j hj => (by by_cases a : j = i; (subst a; exact upd_s); (rw [upd_n (by omega)]; exact h2 j (by omega))), fun j hj => (by rw [upd_n (by omega)]; exact h3 j hj)⟩ hP hS
  · refine lv_iconst (v := 0) F.1 F.2.1 dX8_remembers_9 (by decide) ?_
    refine lv_istore_n (lv' := [(1, .int (0)), (0, .ref (ad o))]) F.1 F.2.1 dX8_remembers_10 rfl hl (by decide) rfl (fun ls hl => ?_)
    have hk6 : k0 = 6 := (nI_eq (by omega) (by decide)).mp c1
    refine w_loop (Inv := fun j ls C' => ∃ (k : Nat) (pa1 : Nat → Int32), j = 805 - k ∧ k ≤ 805 ∧ lv_has ls 2 [(1, .int (nI k)), (0, .ref (ad o))] ∧ C' = mW Y ad (va_up C (o + 2) (pA Y pa1)) o (nI k0) n gr 0 r s0 ∧ (∀ i, i < k → pa1 i = pa (161 + i)) ∧ ∀ i, k ≤ i → pa1 i = pa i) ?_ 805 ⟨0, pa, rfl, by decide, lv_sub hl [0, 1] rfl, by rw [← up_id hpa], fun i hi => absurd hi (Nat.not_lt_zero _), fun _ _ => rfl⟩ hP hS
    intro j ih H locs ls K0 hInv hP hS
    obtain ⟨k, pa1, hj, hk, hl, rfl, h1, h1b⟩ := hInv
    refine lv_iload_n F.1 F.2.1 dX8_remembers_11 rfl (lv_at hl 0 rfl) ?_
    refine lv_sipush (v := 805) F.1 F.2.1 dX8_remembers_12 (by decide) ?_
    refine lv_icmp_ge (tgt := 40) F.1 F.2.1 dX8_remembers_15 (by decide) (fun c4 => ?_) (fun c4 => ?_)
    · obtain rfl : k = 805 := Nat.le_antisymm hk (Nat.le_of_not_lt (fun z => nI_ge (b := 805) z (by decide) c4))
      refine lv_aload_n F.1 F.2.1 dX8_remembers_40 rfl (lv_at hl 1 rfl) ?_
      refine lv_dup F.1 F.2.1 dX8_remembers_41 rfl ?_
      refine gf_X8_30 F hP (by omega) mW_o (v := .int (nI k0)) rfl dX8_remembers_42 ?_
      refine lv_iconst (v := 1) F.1 F.2.1 dX8_remembers_45 (by decide) ?_
      refine lv_isub F.1 F.2.1 dX8_remembers_46 ?_
      refine lv_topi (fun v5 ev5 => ?_)
      have ev5 : v5 = nI 5 := ev5.trans (by rw [hk6]; rfl)
      subst ev5
      refine pf_X8_30 F hI hP hS (by omega) mW_o (Nat.le_of_ble_eq_true rfl) (C1 := mW Y ad (va_up C (o + 2) (pA Y pa1)) o (nI 5) n gr 0 r s0) (fun q => congrFun mW_updo q) dX8_remembers_47 (fun H locs hP hS => ?_)
      refine lv_iconst (v := 0) F.1 F.2.1 dX8_remembers_50 (by decide) ?_
      refine lv_istore_n (lv' := [(1, .int (0)), (0, .ref (ad o))]) F.1 F.2.1 dX8_remembers_51 rfl hl (by decide) rfl (fun ls hl => ?_)
      refine w_loop (Inv := fun j ls C' => ∃ (i : Nat) (pa2 : Nat → Int32), j = 161 - i ∧ i ≤ 161 ∧ lv_has ls 2 [(1, .int (nI i)), (0, .ref (ad o))] ∧ C' = mW Y ad (va_up C (o + 2) (pA Y pa2)) o (nI 5) n gr 0 r s0 ∧ (∀ j, j < i → pa2 (161 * 5 + j) = r j) ∧ ∀ j, j < 161 * 5 → pa2 j = pa1 j) ?_ 161 ⟨0, pa1, rfl, by decide, lv_sub hl [0, 1] rfl, rfl, fun i hi => absurd hi (Nat.not_lt_zero _), fun _ _ => rfl⟩ hP hS
      intro j ih H locs ls K0 hInv hP hS
      obtain ⟨i, pa2, hj, hi, hl, rfl, h2, h3⟩ := hInv
      refine lv_iload_n F.1 F.2.1 dX8_remembers_52 rfl (lv_at hl 0 rfl) ?_
      refine lv_sipush (v := 161) F.1 F.2.1 dX8_remembers_53 (by decide) ?_
      refine lv_icmp_ge (tgt := 86) F.1 F.2.1 dX8_remembers_56 (by decide) (fun c6 => ?_) (fun c6 => ?_)
      · obtain rfl : i = 161 := Nat.le_antisymm hi (Nat.le_of_not_lt (fun z => nI_ge (b := 161) z (by decide) c6))
        refine lv_aload_n F.1 F.2.1 dX8_remembers_86 rfl (lv_at hl 1 rfl) ?_
        refine lv_dup F.1 F.2.1 dX8_remembers_87 rfl ?_
        refine gf_X8_30 F hP (by omega) mW_o (v := .int (nI 5)) rfl dX8_remembers_88 ?_
        refine lv_iconst (v := 1) F.1 F.2.1 dX8_remembers_91 (by decide) ?_
        refine lv_iadd F.1 F.2.1 dX8_remembers_92 ?_
        refine lv_topi (fun v7 ev7 => ?_)
        have ev7 : v7 = nI 6 := ev7.trans rfl
        subst ev7
        refine pf_X8_30 F hI hP hS (by omega) mW_o (Nat.le_of_ble_eq_true rfl) (C1 := mW Y ad (va_up C (o + 2) (pA Y pa2)) o (nI 6) n gr 0 r s0) (fun q => congrFun mW_updo q) dX8_remembers_93 (fun H locs hP hS => ?_)
        exact w_vret F hr hlocks hP hS dX8_remembers_96 (by subst hk6; exact ⟨pa2, rfl, rec_1 hhs h1 h2 h3⟩)
      · have hk1 : i < 161 := Nat.lt_of_not_le (fun q => c6 (nI_le (a := 161) q (by omega)))
        refine lv_aload_n F.1 F.2.1 dX8_remembers_59 rfl (lv_at hl 1 rfl) ?_
        refine gf_X8_13 F hP (by omega) mW_o (v := .ref (ad (o + 2))) rfl dX8_remembers_60 ?_
        refine lv_sipush (v := 161) F.1 F.2.1 dX8_remembers_63 (by decide) ?_
        refine lv_aload_n F.1 F.2.1 dX8_remembers_66 rfl (lv_at hl 1 rfl) ?_
        refine gf_X8_30 F hP (by omega) mW_o (v := .int (nI 5)) rfl dX8_remembers_67 ?_
        refine lv_imul F.1 F.2.1 dX8_remembers_70 ?_
        refine lv_iload_n F.1 F.2.1 dX8_remembers_71 rfl (lv_at hl 0 rfl) ?_
        refine lv_iadd F.1 F.2.1 dX8_remembers_72 ?_
        refine lv_aload_n F.1 F.2.1 dX8_remembers_73 rfl (lv_at hl 1 rfl) ?_
        refine gf_X8_7 F hP (by omega) mW_o (v := .ref (ad (o + 1))) rfl dX8_remembers_74 ?_
        refine lv_iload_n F.1 F.2.1 dX8_remembers_77 rfl (lv_at hl 0 rfl) ?_
        refine w_iald F hP (by omega) mW_s (k := i) rfl (by omega) (Nat.le_of_ble_eq_true rfl) (v := r i) (put_at (k := i) (by omega) (by omega)) dX8_remembers_78 ?_
        refine w_iast F hI hP hS (by omega) ((mW_x (by omega) (by omega)).trans (va_up_self _ _ _)) (k := 161 * 5 + i) (ix_add (X := 161 * 5) (Y := i) (Z := 161 * 5 + i) (ix_mul (X := 161) (Y := 5) rfl rfl) rfl (by omega)) (by omega) (Nat.le_of_ble_eq_true rfl) (C1 := mW Y ad (va_up C (o + 2) (pA Y (upd pa2 (161 * 5 + i) (r i)))) o (nI 5) n gr 0 r s0) (fun q => by rw [mW_upx (by omega) (by omega), uu]) dX8_remembers_79 (fun H locs hP hS => ?_)
        refine lv_iinc (v := (nI i) + 1) (lv' := [(1, .int ((nI i) + 1)), (0, .ref (ad o))]) F.1 F.2.1 dX8_remembers_80 hl (k := 0) rfl rfl (by decide) rfl (fun ls hl => ?_)
        refine lv_goto (tgt := 52) F.1 F.2.1 dX8_remembers_83 (by decide) ?_
        exact ih _ (by omega) _ _ _ _ ⟨i + 1, _, rfl, by omega, (by rw [nI_succ]; exact lv_sub hl [0, 1] rfl), rfl, fun j hj => (by by_cases a : j = i; (subst a; exact upd_s); (rw [upd_n (by omega)]; exact h2 j (by omega))), fun j hj => (by rw [upd_n (by omega)]; exact h3 j hj)⟩ hP hS
    · have hk1 : k < 805 := Nat.lt_of_not_le (fun q => c4 (nI_le (a := 805) q (by omega)))
      refine lv_aload_n F.1 F.2.1 dX8_remembers_18 rfl (lv_at hl 1 rfl) ?_
      refine gf_X8_13 F hP (by omega) mW_o (v := .ref (ad (o + 2))) rfl dX8_remembers_19 ?_
      refine lv_iload_n F.1 F.2.1 dX8_remembers_22 rfl (lv_at hl 0 rfl) ?_
      refine lv_aload_n F.1 F.2.1 dX8_remembers_23 rfl (lv_at hl 1 rfl) ?_
      refine gf_X8_13 F hP (by omega) mW_o (v := .ref (ad (o + 2))) rfl dX8_remembers_24 ?_
      refine lv_sipush (v := 161) F.1 F.2.1 dX8_remembers_27 (by decide) ?_
      refine lv_iload_n F.1 F.2.1 dX8_remembers_30 rfl (lv_at hl 0 rfl) ?_
      refine lv_iadd F.1 F.2.1 dX8_remembers_31 ?_
      refine w_iald F hP (by omega) ((mW_x (by omega) (by omega)).trans (va_up_self _ _ _)) (k := 161 + k) (ix_add (X := 161) (Y := k) (Z := 161 + k) rfl rfl (by omega)) (by omega) (Nat.le_of_ble_eq_true rfl) (v := pa (161 + k)) (h1b (161 + k) (by omega)) dX8_remembers_32 ?_
      refine w_iast F hI hP hS (by omega) ((mW_x (by omega) (by omega)).trans (va_up_self _ _ _)) (k := k) rfl (by omega) (Nat.le_of_ble_eq_true rfl) (C1 := mW Y ad (va_up C (o + 2) (pA Y (upd pa1 (k) (pa (161 + k))))) o (nI k0) n gr 0 r s0) (fun q => by rw [mW_upx (by omega) (by omega), uu]) dX8_remembers_33 (fun H locs hP hS => ?_)
      refine lv_iinc (v := (nI k) + 1) (lv' := [(1, .int ((nI k) + 1)), (0, .ref (ad o))]) F.1 F.2.1 dX8_remembers_34 hl (k := 0) rfl rfl (by decide) rfl (fun ls hl => ?_)
      refine lv_goto (tgt := 11) F.1 F.2.1 dX8_remembers_37 (by decide) ?_
      exact ih _ (by omega) _ _ _ _ ⟨k + 1, _, rfl, by omega, (by rw [nI_succ]; exact lv_sub hl [0, 1] rfl), rfl, fun i hi => (by by_cases a : i = k; (subst a; exact upd_s); (rw [upd_n a]; exact h1 i (by omega))), fun i hi => (by rw [upd_n (by omega)]; exact h1b i (by omega))⟩ hP hS
