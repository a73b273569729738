/-! HoopStairs$Stair and RunLog: parts come and go, runs are listed -/
theorem ins_col {f : Nat → Int32} {kd v : Int32} {k n c j : Nat} (h4 : f 4 = nI n) (hn : n < 20) (hc : c < 5) (hj : j < 20) : T_insert k kd v f (61 + 5 * j + c) = if j = k then (if c = 0 then kd else if c = 1 then v else 0) else if k < j ∧ j ≤ n then f (61 + 5 * (j - 1) + c) else f (61 + 5 * j + c) := by
  have hm : (f 4).toNatClampNeg = n := by rw [h4]; exact nI_clamp (by omega)
  unfold T_insert
  rw [hm, if_neg (by omega), if_neg (by omega)]
  by_cases a : j = k
  · rw [if_pos a]
    by_cases b : c = 0
    · rw [if_pos b, if_pos (by omega)]
    · rw [if_neg b, if_neg (by omega)]
      by_cases d : c = 1
      · rw [if_pos d, if_pos (by omega)]
      · rw [if_neg d, if_neg (by omega), if_pos (by omega)]
  · rw [if_neg a, if_neg (by omega), if_neg (by omega), if_neg (by omega)]
    by_cases b : k < j ∧ j ≤ n
    · rw [if_pos b, if_pos (by omega)]
      exact congrArg f (by omega)
    · rw [if_neg b, if_neg (by omega)]
theorem rem_col {f : Nat → Int32} {k n c j : Nat} (h4 : f 4 = nI n) (hn : n ≤ 20) (hk : k < n) (hc : c < 5) (hj : j < 20) : T_remove k f (61 + 5 * j + c) = if k ≤ j ∧ j + 1 < n then f (61 + 5 * (j + 1) + c) else f (61 + 5 * j + c) := by
  have hm : (f 4).toNatClampNeg = n := by rw [h4]; exact nI_clamp (by omega)
  unfold T_remove
  rw [hm, if_neg (by omega), if_neg (by omega)]
  by_cases b : k ≤ j ∧ j + 1 < n
  · rw [if_pos b, if_pos (by omega)]
    exact congrArg f (by omega)
  · rw [if_neg b, if_neg (by omega)]
set_option maxRecDepth 20000 in
set_option maxHeartbeats 4000000 in
/-- a part comes -/
theorem c_X5_insert (l : Launch) (D : va_G) (Y : Nat → ClassId) (ad : Nat → Nat) (N : Nat) (hI : wI ad N) (C : Nat → va_E) (st : Nat) (hh : st + 6 < N) (f : Nat → Int32) (hs : isStair Y ad C st f) (kp n : Nat) (kd v : Int32) (hk : kp ≤ n) (hn : n < 20) (h4 : f 4 = nI n) : Met l yX5_insert (wm yX5_insert cX5_insert 5 none) { frames := 1, cells := 0, slots := 0, locals := 24 } (wPc D Y ad N [.ref (ad st), .int (nI kp), .int (kd), .int (v)] C) (wQv D ad N (fun C' => isStair Y ad C' st (T_insert kp kd v f) ∧ ∀ j, j < st ∨ st + 7 ≤ j → C' j = C j)) 0 0 (wA ad N) := by
  obtain ⟨qs, hqs, hqs1⟩ := hs.2.1
  refine wMet RX5 rfl (by decide +kernel) (Nat.le_of_ble_eq_true rfl) (lv := [(0, .ref (ad st)), (1, .int (nI kp)), (2, .int (kd)), (3, .int (v))]) rfl ?_
  intro p e s m below meth c ls F hr hlocks hP hl
  have hS : va_S (wA ad N) s.heap s.heap [] := va_S.rf
  refine lv_iload_n F.1 F.2.1 dX5_insert_0 rfl (lv_at hl 1 rfl) ?_
  refine lv_if_lt (tgt := 21) F.1 F.2.1 dX5_insert_1 (by decide) (fun c1 => False.elim (nI_pos (by omega) c1)) (fun c1 => ?_)
  refine lv_iload_n F.1 F.2.1 dX5_insert_4 rfl (lv_at hl 1 rfl) ?_
  refine lv_aload_n F.1 F.2.1 dX5_insert_5 rfl (lv_at hl 0 rfl) ?_
  refine gf_X5_14 F hP (by omega) hs.1 (v := .int (f 4)) rfl dX5_insert_6 ?_
  refine lv_icmp_gt (tgt := 21) F.1 F.2.1 dX5_insert_9 (by decide) (fun c2 => False.elim ((by rw [h4] at c2; exact absurd c2 (i_nlt (nI_le hk (by omega)))))) (fun c2 => ?_)
  refine lv_aload_n F.1 F.2.1 dX5_insert_12 rfl (lv_at hl 0 rfl) ?_
  refine gf_X5_14 F hP (by omega) hs.1 (v := .int (f 4)) rfl dX5_insert_13 ?_
  refine lv_bipush (v := 20) F.1 F.2.1 dX5_insert_16 (by decide) ?_
  refine lv_icmp_lt (tgt := 22) F.1 F.2.1 dX5_insert_18 (by decide) (fun c3 => ?_) (fun c3 => False.elim ((by rw [h4] at c3; exact c3 (nI_lt hn (by decide)))))
  refine lv_iconst (v := 0) F.1 F.2.1 dX5_insert_22 (by decide) ?_
  refine lv_istore (lv' := [(4, .int (0)), (0, .ref (ad st)), (1, .int (nI kp)), (2, .int (kd)), (3, .int (v))]) F.1 F.2.1 dX5_insert_23 hl (by decide) rfl (fun ls hl => ?_)
  refine w_loop (Inv := fun j ls C' => ∃ i : Nat, j = 5 - i ∧ i ≤ 5 ∧ lv_has ls 5 [(4, .int (nI i)), (0, .ref (ad st)), (1, .int (nI kp)), (2, .int (kd)), (3, .int (v))] ∧ isGrid Y C' (st + 2) 5 20 (fun c k => if c < i then (if k = kp then 0 else if kp < k ∧ k ≤ n then f (61 + 5 * (k - 1) + c) else f (61 + 5 * k + c)) else f (61 + 5 * k + c)) ∧ (∀ j, j < st + 2 ∨ st + 7 ≤ j → C' j = C j)) ?_ 5 ⟨0, rfl, by decide, lv_sub hl [0, 1, 2, 3, 4] rfl, isGrid_congr hs.2.2 (fun c k _ _ => by rw [if_neg (Nat.not_lt_zero c)]), fun _ _ => rfl⟩ hP hS
  intro j ih H locs ls C1 hInv hP hS
  obtain ⟨i, hi, hi5, hl, hG, hO⟩ := hInv
  have g1 : C1 st = .inr (5, [.ref (ad (st + 1)), .int (f 4)]) := (hO _ (by omega)).trans hs.1
  have g3 : C1 (st + 1) = .inl (Y 3, 5, .inr (.inr (.inr (.inr qs)))) := (hO _ (by omega)).trans hqs
  refine lv_iload F.1 F.2.1 dX5_insert_25 (lv_at hl 0 rfl) ?_
  refine lv_iconst (v := 5) F.1 F.2.1 dX5_insert_27 (by decide) ?_
  refine lv_icmp_ge (tgt := 74) F.1 F.2.1 dX5_insert_28 (by decide) (fun c4 => ?_) (fun c4 => ?_)
  · have hin : ¬ i < 5 := fun q => nI_ge (b := 5) q (by decide) c4
    have hG : isGrid Y C1 (st + 2) 5 20 (fun c k => (if k = kp then 0 else if kp < k ∧ k ≤ n then f (61 + 5 * (k - 1) + c) else f (61 + 5 * k + c))) := isGrid_congr hG (fun c k hc _ => by rw [if_pos (by omega)])
    obtain ⟨q8, h8, h8b⟩ := hG 0 (by decide)
    refine lv_aload_n F.1 F.2.1 dX5_insert_74 rfl (lv_at hl 1 rfl) ?_
    refine gf_X5_11 F hP (by omega) g1 (v := .ref (ad (st + 1))) rfl dX5_insert_75 ?_
    refine lv_iconst (v := 0) F.1 F.2.1 dX5_insert_78 (by decide) ?_
    refine w_gald F hP (by omega) g3 (k := 0) rfl (by decide) (Nat.le_of_ble_eq_true rfl) (v := ad (st + 2 + 0)) (hqs1 0 (by decide)) dX5_insert_79 ?_
    refine lv_iload_n F.1 F.2.1 dX5_insert_80 rfl (lv_at hl 2 rfl) ?_
    refine lv_iload_n F.1 F.2.1 dX5_insert_81 rfl (lv_at hl 3 rfl) ?_
    obtain ⟨Ca, eCa⟩ : ∃ z, z = va_up C1 (st + 2 + 0) (.inl (Y 0, 20, .inl (upd q8 kp kd))) := ⟨_, rfl⟩
    refine w_iast F hI hP hS (by omega) h8 (k := kp) rfl (by omega) (by decide) (C1 := Ca) (fun j => by rw [eCa]) dX5_insert_82 (fun H locs hP hS => ?_)
    have hGa : isGrid Y Ca (st + 2) 5 20 (fun c k => if k = kp ∧ c = 0 then kd else if k = kp then 0 else if kp < k ∧ k ≤ n then f (61 + 5 * (k - 1) + c) else f (61 + 5 * k + c)) := by
      rw [eCa]
      refine isGrid_up hG (fun k hkk => ?_) (fun c k hc hne hkk => by rw [if_neg (by omega)])
      by_cases a : k = kp
      · rw [if_pos ⟨a, rfl⟩, a, upd_s]
      · rw [if_neg (fun z => a z.1), upd_n a, (h8b k hkk)]
    have g1a : Ca st = .inr (5, [.ref (ad (st + 1)), .int (f 4)]) := by rw [eCa, va_up_ne _ _ (by omega)]; exact g1
    have g3a : Ca (st + 1) = .inl (Y 3, 5, .inr (.inr (.inr (.inr qs)))) := by rw [eCa, va_up_ne _ _ (by omega)]; exact g3
    have hOa : ∀ j, j < st + 2 ∨ st + 7 ≤ j → Ca j = C j := fun j hj => by rw [eCa, va_up_ne _ _ (by omega)]; exact hO j hj
    obtain ⟨q9, h9, h9b⟩ := hGa 1 (by decide)
    have h9b : ∀ k, k < 20 → q9 k = if k = kp ∧ (1 : Nat) = 0 then kd else if k = kp then 0 else if kp < k ∧ k ≤ n then f (61 + 5 * (k - 1) + 1) else f (61 + 5 * k + 1) := h9b
    refine lv_aload_n F.1 F.2.1 dX5_insert_83 rfl (lv_at hl 1 rfl) ?_
    refine gf_X5_11 F hP (by omega) g1a (v := .ref (ad (st + 1))) rfl dX5_insert_84 ?_
    refine lv_iconst (v := 1) F.1 F.2.1 dX5_insert_87 (by decide) ?_
    refine w_gald F hP (by omega) g3a (k := 1) rfl (by decide) (Nat.le_of_ble_eq_true rfl) (v := ad (st + 2 + 1)) (hqs1 1 (by decide)) dX5_insert_88 ?_
    refine lv_iload_n F.1 F.2.1 dX5_insert_89 rfl (lv_at hl 2 rfl) ?_
    refine lv_iload_n F.1 F.2.1 dX5_insert_90 rfl (lv_at hl 4 rfl) ?_
    obtain ⟨Cb, eCb⟩ : ∃ z, z = va_up Ca (st + 2 + 1) (.inl (Y 0, 20, .inl (upd q9 kp v))) := ⟨_, rfl⟩
    refine w_iast F hI hP hS (by omega) h9 (k := kp) rfl (by omega) (by decide) (C1 := Cb) (fun j => by rw [eCb]) dX5_insert_91 (fun H locs hP hS => ?_)
    have hGb : isGrid Y Cb (st + 2) 5 20 (fun c k => T_insert kp kd v f (61 + 5 * k + c)) := by
      rw [eCb]
      refine isGrid_up hGa (fun k hkk => ?_) (fun c k hc hne hkk => ?_)
      · rw [ins_col h4 hn (by decide) hkk]
        by_cases a : k = kp
        · rw [if_pos a, a, upd_s]; rfl
        · rw [if_neg a, upd_n a, h9b k hkk, if_neg (show ¬ (k = kp ∧ (1 : Nat) = 0) from fun z => a z.1), if_neg a]
      · rw [ins_col h4 hn hc hkk]
        show _ = if k = kp ∧ c = 0 then kd else if k = kp then 0 else if kp < k ∧ k ≤ n then f (61 + 5 * (k - 1) + c) else f (61 + 5 * k + c)
        by_cases a : k = kp
        · rw [if_pos a]
          by_cases b : c = 0
          · rw [if_pos b, if_pos ⟨a, b⟩]
          · rw [if_neg b, if_neg hne, if_neg (show ¬ (k = kp ∧ c = 0) from fun z => b z.2), if_pos a]
        · rw [if_neg a, if_neg (show ¬ (k = kp ∧ c = 0) from fun z => a z.1), if_neg a]
    have g1b : Cb st = .inr (5, [.ref (ad (st + 1)), .int (f 4)]) := by rw [eCb, va_up_ne _ _ (by omega)]; exact g1a
    have g3b : Cb (st + 1) = .inl (Y 3, 5, .inr (.inr (.inr (.inr qs)))) := by rw [eCb, va_up_ne _ _ (by omega)]; exact g3a
    have hOb : ∀ j, j < st + 2 ∨ st + 7 ≤ j → Cb j = C j := fun j hj => by rw [eCb, va_up_ne _ _ (by omega)]; exact hOa j hj
    refine lv_aload_n F.1 F.2.1 dX5_insert_92 rfl (lv_at hl 1 rfl) ?_
    refine lv_dup F.1 F.2.1 dX5_insert_93 rfl ?_
    refine gf_X5_14 F hP (by omega) g1b (v := .int (f 4)) rfl dX5_insert_94 ?_
    refine lv_iconst (v := 1) F.1 F.2.1 dX5_insert_97 (by decide) ?_
    refine lv_iadd F.1 F.2.1 dX5_insert_98 ?_
    refine pf_X5_14 F hI hP hS (by omega) g1b (Nat.le_of_ble_eq_true rfl) up_rfl dX5_insert_99 (fun H locs hP hS => ?_)
    exact w_vret F hr hlocks hP hS dX5_insert_102 ⟨⟨va_up_self _ _ _, ⟨qs, by rw [va_up_ne _ _ (by omega)]; exact g3b, hqs1⟩, isGrid_off hGb (by omega)⟩, fun j hj => by rw [va_up_ne _ _ (by omega)]; exact hOb j (by omega)⟩
  · have hin : i < 5 := by have q := i_lt c4; exact Nat.not_le.mp (fun z => i_nlt (nI_le z (by omega)) q)
    obtain ⟨q5, h5, h6⟩ := hG i hin
    have h6 : ∀ k, k < 20 → q5 k = f (61 + 5 * k + i) := fun k hk => (h6 k hk).trans (if_neg (Nat.lt_irrefl i))
    refine lv_aload_n F.1 F.2.1 dX5_insert_31 rfl (lv_at hl 1 rfl) ?_
    refine gf_X5_11 F hP (by omega) g1 (v := .ref (ad (st + 1))) rfl dX5_insert_32 ?_
    refine lv_iload F.1 F.2.1 dX5_insert_35 (lv_at hl 0 rfl) ?_
    refine w_gald F hP (by omega) g3 (k := i) rfl hin (Nat.le_of_ble_eq_true rfl) (v := ad (st + 2 + i)) (hqs1 i hin) dX5_insert_37 ?_
    refine lv_iload_n F.1 F.2.1 dX5_insert_38 rfl (lv_at hl 2 rfl) ?_
    refine lv_aload_n F.1 F.2.1 dX5_insert_39 rfl (lv_at hl 1 rfl) ?_
    refine gf_X5_11 F hP (by omega) g1 (v := .ref (ad (st + 1))) rfl dX5_insert_40 ?_
    refine lv_iload F.1 F.2.1 dX5_insert_43 (lv_at hl 0 rfl) ?_
    refine w_gald F hP (by omega) g3 (k := i) rfl hin (Nat.le_of_ble_eq_true rfl) (v := ad (st + 2 + i)) (hqs1 i hin) dX5_insert_45 ?_
    refine lv_iload_n F.1 F.2.1 dX5_insert_46 rfl (lv_at hl 2 rfl) ?_
    refine lv_iconst (v := 1) F.1 F.2.1 dX5_insert_47 (by decide) ?_
    refine lv_iadd F.1 F.2.1 dX5_insert_48 ?_
    refine lv_aload_n F.1 F.2.1 dX5_insert_49 rfl (lv_at hl 1 rfl) ?_
    refine gf_X5_14 F hP (by omega) g1 (v := .int (f 4)) rfl dX5_insert_50 ?_
    refine lv_iload_n F.1 F.2.1 dX5_insert_53 rfl (lv_at hl 2 rfl) ?_
    refine lv_isub F.1 F.2.1 dX5_insert_54 ?_
    refine w_acpy F hI hl.1 hP hS mw_146 (h0 := st + 2 + i) (h1 := st + 2 + i) (by omega) (by omega) h5 h5 (a := kp) (b := kp + 1) (k := n - kp) rfl (nI_succ kp).symm (by rw [h4]; exact pk_sub hk) (by omega) (by omega) (by decide) (by decide) (by decide) (Nat.le_of_ble_eq_true rfl) up_rfl dX5_insert_55 (fun H locs hP hS => ?_)
    have g1 : va_up C1 (st + 2 + i) (.inl (Y 0, 20, .inl (va_cpy q5 q5 kp (kp + 1) (n - kp)))) st = .inr (5, [.ref (ad (st + 1)), .int (f 4)]) := (va_up_ne _ _ (by omega)).trans g1
    have g3 : va_up C1 (st + 2 + i) (.inl (Y 0, 20, .inl (va_cpy q5 q5 kp (kp + 1) (n - kp)))) (st + 1) = .inl (Y 3, 5, .inr (.inr (.inr (.inr qs)))) := (va_up_ne _ _ (by omega)).trans g3
    refine lv_aload_n F.1 F.2.1 dX5_insert_58 rfl (lv_at hl 1 rfl) ?_
    refine gf_X5_11 F hP (by omega) g1 (v := .ref (ad (st + 1))) rfl dX5_insert_59 ?_
    refine lv_iload F.1 F.2.1 dX5_insert_62 (lv_at hl 0 rfl) ?_
    refine w_gald F hP (by omega) g3 (k := i) rfl hin (Nat.le_of_ble_eq_true rfl) (v := ad (st + 2 + i)) (hqs1 i hin) dX5_insert_64 ?_
    refine lv_iload_n F.1 F.2.1 dX5_insert_65 rfl (lv_at hl 2 rfl) ?_
    refine lv_iconst (v := 0) F.1 F.2.1 dX5_insert_66 (by decide) ?_
    refine w_iast F hI hP hS (by omega) (va_up_self _ _ _) (k := kp) rfl (by omega) (by decide) (C1 := va_up C1 (st + 2 + i) (.inl (Y 0, 20, .inl (upd (va_cpy q5 q5 kp (kp + 1) (n - kp)) kp 0)))) up_self dX5_insert_67 (fun H locs hP hS => ?_)
    have hG2 : isGrid Y (va_up C1 (st + 2 + i) (.inl (Y 0, 20, .inl (upd (va_cpy q5 q5 kp (kp + 1) (n - kp)) kp 0)))) (st + 2) 5 20 (fun c k => if c < i + 1 then (if k = kp then 0 else if kp < k ∧ k ≤ n then f (61 + 5 * (k - 1) + c) else f (61 + 5 * k + c)) else f (61 + 5 * k + c)) := isGrid_up hG (fun k hkk => by
        rw [if_pos (Nat.lt_succ_self i)]
        by_cases a : k = kp
        · rw [if_pos a, a, upd_s]
        · rw [if_neg a, upd_n a]
          by_cases b : kp < k ∧ k ≤ n
          · rw [if_pos b, pk_cpy_in (by omega) (by omega), h6 _ (by omega), show kp + (k - (kp + 1)) = k - 1 by omega]
          · rw [if_neg b, pk_cpy_out (by omega), h6 _ hkk]) (fun c k hc hne hkk => by by_cases q : c < i <;> simp only [q, if_true, if_false] <;> first | rw [if_pos (by omega)] | rw [if_neg (by omega)])
    have hO2 : ∀ j, j < st + 2 ∨ st + 7 ≤ j → va_up C1 (st + 2 + i) (.inl (Y 0, 20, .inl (upd (va_cpy q5 q5 kp (kp + 1) (n - kp)) kp 0))) j = C j := fun j hj => by rw [va_up_ne _ _ (by omega)]; exact hO j hj
    refine lv_iinc (v := (nI i) + 1) (lv' := [(4, .int ((nI i) + 1)), (0, .ref (ad st)), (1, .int (nI kp)), (2, .int (kd)), (3, .int (v))]) F.1 F.2.1 dX5_insert_68 hl (k := 0) rfl rfl (by decide) rfl (fun ls hl => ?_)
    refine lv_goto (tgt := 25) F.1 F.2.1 dX5_insert_71 (by decide) ?_
    exact ih _ (by omega) _ _ _ _ ⟨i + 1, rfl, by omega, (by rw [nI_succ]; exact lv_sub hl [0, 1, 2, 3, 4] rfl), hG2, hO2⟩ hP hS

