/-! HoopStairs$Stair: what it does to its columns -/
/-- nc rows of n numbers from b on -/
def isGrid (Y : Nat → ClassId) (C : Nat → va_E) (b nc n : Nat) (v : Nat → Nat → Int32) : Prop := ∀ c, c < nc → ∃ q : Nat → Int32, C (b + c) = .inl (Y 0, n, .inl q) ∧ ∀ k, k < n → q k = v c k
theorem isGrid_up {Y : Nat → ClassId} {C : Nat → va_E} {b nc n i : Nat} {v v' : Nat → Nat → Int32} {q : Nat → Int32} (h : isGrid Y C b nc n v) (hq : ∀ k, k < n → q k = v' i k) (ho : ∀ c k, c < nc → c ≠ i → k < n → v' c k = v c k) : isGrid Y (va_up C (b + i) (.inl (Y 0, n, .inl q))) b nc n v' := by
  intro c hc
  by_cases e : c = i
  · subst e
    exact ⟨q, va_up_self _ _ _, hq⟩
  · obtain ⟨r, h1, h2⟩ := h c hc
    exact ⟨r, by rw [va_up_ne _ _ (by omega), h1], fun k hk => by rw [h2 k hk, ho c k hc e hk]⟩
theorem isGrid_off {Y : Nat → ClassId} {C : Nat → va_E} {b nc n h : Nat} {e : va_E} {v : Nat → Nat → Int32} (hg : isGrid Y C b nc n v) (hd : h < b ∨ b + nc ≤ h) : isGrid Y (va_up C h e) b nc n v := by
  intro c hc
  obtain ⟨r, h1, h2⟩ := hg c hc
  exact ⟨r, by rw [va_up_ne _ _ (by omega), h1], h2⟩
theorem isGrid_congr {Y : Nat → ClassId} {C : Nat → va_E} {b nc n : Nat} {v v' : Nat → Nat → Int32} (hg : isGrid Y C b nc n v) (h : ∀ c k, c < nc → k < n → v c k = v' c k) : isGrid Y C b nc n v' := by
  intro c hc
  obtain ⟨r, h1, h2⟩ := hg c hc
  exact ⟨r, h1, fun k hk => by rw [h2 k hk, h c k hc hk]⟩
theorem isGrid_same {Y : Nat → ClassId} {C C' : Nat → va_E} {b nc n : Nat} {v : Nat → Nat → Int32} (hg : isGrid Y C b nc n v) (h : ∀ j, b ≤ j → j < b + nc → C' j = C j) : isGrid Y C' b nc n v := by
  intro c hc
  obtain ⟨r, h1, h2⟩ := hg c hc
  exact ⟨r, by rw [h _ (by omega) (by omega), h1], h2⟩
def isLog (Y : Nat → ClassId) (ad : Nat → Nat) (C : Nat → va_E) (lg : Nat) (f : Nat → Int32) : Prop :=
  C lg = .inr (3, [.ref (ad (lg + 1)), .int (f 20)]) ∧ (∃ q : Nat → Option Nat, C (lg + 1) = .inl (Y 3, 4, .inr (.inr (.inr (.inr q)))) ∧ ∀ i, i < 4 → q i = some (ad (lg + 2 + i))) ∧
  isGrid Y C (lg + 2) 4 10 (fun i r => f (21 + 4 * r + i))
def T_sum (kd : Int32) (f : Nat → Int32) : Nat → Int32
  | 0 => 0
  | k + 1 => if kindAt f k = kd then T_sum kd f k + valAt f k else T_sum kd f k
def T_least (f : Nat → Int32) : Nat → Int32
  | 0 => 0
  | k + 1 => if kindAt f k = 2 ∧ (T_least f k = 0 ∨ valAt f k < T_least f k) then valAt f k else T_least f k
theorem m20 {f : Nat → Int32} (h : okS f) : (f 4).toNatClampNeg ≤ 20 := by
  have h1 := h.2.2.2.2.1
  have h3 : (f 4).toNatClampNeg = (f 4).toInt.toNat := rfl
  omega
set_option maxRecDepth 20000 in
set_option maxHeartbeats 4000000 in
/-- columns copied -/
theorem c_X5_copyFrom (l : Launch) (D : va_G) (Y : Nat → ClassId) (ad : Nat → Nat) (N : Nat) (hI : wI ad N) (C : Nat → va_E) (st so : Nat) (hh : st + 6 < N) (hh2 : so + 6 < N) (hd : st + 7 ≤ so ∨ so + 7 ≤ st) (f f2 : Nat → Int32) (hs : isStair Y ad C st f) (ho : isStair Y ad C so f2) : Met l yX5_copyFrom (wm yX5_copyFrom cX5_copyFrom 3 none) { frames := 1, cells := 0, slots := 0, locals := 24 } (wPc D Y ad N [.ref (ad st), .ref (ad so)] C) (wQv D ad N (fun C' => isStair Y ad C' st f2 ∧ ∀ j, j < st ∨ st + 7 ≤ j → C' j = C j)) 0 0 (wA ad N) := by
  obtain ⟨qs, hqs, hqs1⟩ := hs.2.1
  obtain ⟨qo, hqo, hqo1⟩ := ho.2.1
  refine wMet RX5 rfl (by decide +kernel) (Nat.le_of_ble_eq_true rfl) (lv := [(0, .ref (ad st)), (1, .ref (ad so))]) rfl ?_
  intro p e s m below meth c ls F hr hlocks hP hl
  have hS : va_S (wA ad N) s.heap s.heap [] := va_S.rf
  refine lv_iconst (v := 0) F.1 F.2.1 dX5_copyFrom_0 (by decide) ?_
  refine lv_istore_n (lv' := [(2, .int (0)), (0, .ref (ad st)), (1, .ref (ad so))]) F.1 F.2.1 dX5_copyFrom_1 rfl hl (by decide) rfl (fun ls hl => ?_)
  refine w_loop (Inv := fun j ls C' => ∃ i : Nat, j = 5 - i ∧ i ≤ 5 ∧ lv_has ls 3 [(2, .int (nI i)), (0, .ref (ad st)), (1, .ref (ad so))] ∧ isGrid Y C' (st + 2) 5 20 (fun c k => if c < i then f2 (61 + 5 * k + c) else f (61 + 5 * k + c)) ∧ (∀ j, j < st + 2 ∨ st + 7 ≤ j → C' j = C j)) ?_ 5 ⟨0, rfl, by decide, lv_sub hl [0, 1, 2] rfl, isGrid_congr hs.2.2 (fun c k _ _ => by rw [if_neg (Nat.not_lt_zero c)]), fun _ _ => rfl⟩ hP hS
  intro j ih H locs ls C1 hInv hP hS
  obtain ⟨i, hi, hi5, hl, hG, hO⟩ := hInv
  have g1 : C1 st = .inr (5, [.ref (ad (st + 1)), .int (f 4)]) := (hO _ (by omega)).trans hs.1
  have g2 : C1 so = .inr (5, [.ref (ad (so + 1)), .int (f2 4)]) := (hO _ (by omega)).trans ho.1
  have g3 : C1 (st + 1) = .inl (Y 3, 5, .inr (.inr (.inr (.inr qs)))) := (hO _ (by omega)).trans hqs
  have g4 : C1 (so + 1) = .inl (Y 3, 5, .inr (.inr (.inr (.inr qo)))) := (hO _ (by omega)).trans hqo
  refine lv_iload_n F.1 F.2.1 dX5_copyFrom_2 rfl (lv_at hl 0 rfl) ?_
  refine lv_iconst (v := 5) F.1 F.2.1 dX5_copyFrom_3 (by decide) ?_
  refine lv_icmp_ge (tgt := 32) F.1 F.2.1 dX5_copyFrom_4 (by decide) (fun c1 => ?_) (fun c1 => ?_)
  · refine lv_aload_n F.1 F.2.1 dX5_copyFrom_32 rfl (lv_at hl 1 rfl) ?_
    refine lv_aload_n F.1 F.2.1 dX5_copyFrom_33 rfl (lv_at hl 2 rfl) ?_
    refine gf_X5_14 F hP (by omega) g2 (v := .int (f2 4)) rfl dX5_copyFrom_34 ?_
    have hin : ¬ i < 5 := fun q => nI_ge (b := 5) q (by decide) c1
    refine pf_X5_14 F hI hP hS (by omega) g1 (Nat.le_of_ble_eq_true rfl) up_rfl dX5_copyFrom_37 (fun H locs hP hS => ?_)
    exact w_vret F hr hlocks hP hS dX5_copyFrom_40 ⟨⟨va_up_self _ _ _, ⟨qs, by rw [va_up_ne _ _ (by omega)]; exact g3, hqs1⟩, isGrid_off (isGrid_congr hG (fun c k hc _ => by rw [if_pos (by omega)])) (by omega)⟩, fun j hj => by rw [va_up_ne _ _ (by omega)]; exact hO j (by omega)⟩
  · have hin : i < 5 := by have q := i_lt c1; exact Nat.not_le.mp (fun z => i_nlt (nI_le z (by omega)) q)
    obtain ⟨q5, h5, h6⟩ := hG i hin
    obtain ⟨q7, h7, h8⟩ := ho.2.2 i hin
    have h7 : C1 (so + 2 + i) = .inl (Y 0, 20, .inl q7) := (hO _ (by omega)).trans h7
    refine lv_aload_n F.1 F.2.1 dX5_copyFrom_7 rfl (lv_at hl 2 rfl) ?_
    refine gf_X5_11 F hP (by omega) g2 (v := .ref (ad (so + 1))) rfl dX5_copyFrom_8 ?_
    refine lv_iload_n F.1 F.2.1 dX5_copyFrom_11 rfl (lv_at hl 0 rfl) ?_
    refine w_gald F hP (by omega) g4 (k := i) rfl hin (Nat.le_of_ble_eq_true rfl) (v := ad (so + 2 + i)) (hqo1 i hin) dX5_copyFrom_12 ?_
    refine lv_iconst (v := 0) F.1 F.2.1 dX5_copyFrom_13 (by decide) ?_
    refine lv_aload_n F.1 F.2.1 dX5_copyFrom_14 rfl (lv_at hl 1 rfl) ?_
    refine gf_X5_11 F hP (by omega) g1 (v := .ref (ad (st + 1))) rfl dX5_copyFrom_15 ?_
    refine lv_iload_n F.1 F.2.1 dX5_copyFrom_18 rfl (lv_at hl 0 rfl) ?_
    refine w_gald F hP (by omega) g3 (k := i) rfl hin (Nat.le_of_ble_eq_true rfl) (v := ad (st + 2 + i)) (hqs1 i hin) dX5_copyFrom_19 ?_
    refine lv_iconst (v := 0) F.1 F.2.1 dX5_copyFrom_20 (by decide) ?_
    refine lv_bipush (v := 20) F.1 F.2.1 dX5_copyFrom_21 (by decide) ?_
    refine w_acpy F hI hl.1 hP hS mw_146 (h0 := so + 2 + i) (h1 := st + 2 + i) (by omega) (by omega) h7 h5 (a := 0) (b := 0) (k := 20) rfl rfl rfl (by decide) (by decide) (by decide) (by decide) (by decide) (Nat.le_of_ble_eq_true rfl) up_rfl dX5_copyFrom_23 (fun H locs hP hS => ?_)
    have hG2 : isGrid Y (va_up C1 (st + 2 + i) (.inl (Y 0, 20, .inl (va_cpy q7 q5 0 0 20)))) (st + 2) 5 20 (fun c k => if c < i + 1 then f2 (61 + 5 * k + c) else f (61 + 5 * k + c)) := isGrid_up hG (fun k hk => by rw [pk_cpy_in (by omega) (by omega), if_pos (by omega), show 0 + (k - 0) = k by omega]; exact h8 k hk) (fun c k hc hne hk => by by_cases q : c < i <;> simp only [q, if_true, if_false] <;> first | rw [if_pos (by omega)] | rw [if_neg (by omega)])
    have hO2 : ∀ j, j < st + 2 ∨ st + 7 ≤ j → va_up C1 (st + 2 + i) (.inl (Y 0, 20, .inl (va_cpy q7 q5 0 0 20))) j = C j := fun j hj => by rw [va_up_ne _ _ (by omega)]; exact hO j hj
    refine lv_iinc (v := (nI i) + 1) (lv' := [(2, .int ((nI i) + 1)), (0, .ref (ad st)), (1, .ref (ad so))]) F.1 F.2.1 dX5_copyFrom_26 hl (k := 0) rfl rfl (by decide) rfl (fun ls hl => ?_)
    refine lv_goto (tgt := 2) F.1 F.2.1 dX5_copyFrom_29 (by decide) ?_
    exact ih _ (by omega) _ _ _ _ ⟨i + 1, rfl, by omega, (by rw [nI_succ]; exact lv_sub hl [0, 1, 2] rfl), hG2, hO2⟩ hP hS
set_option maxRecDepth 20000 in
set_option maxHeartbeats 4000000 in
/-- columns copied -/
theorem c_X3_copyFrom (l : Launch) (D : va_G) (Y : Nat → ClassId) (ad : Nat → Nat) (N : Nat) (hI : wI ad N) (C : Nat → va_E) (st so : Nat) (hh : st + 5 < N) (hh2 : so + 5 < N) (hd : st + 6 ≤ so ∨ so + 6 ≤ st) (f f2 : Nat → Int32) (hs : isLog Y ad C st f) (ho : isLog Y ad C so f2) : Met l yX3_copyFrom (wm yX3_copyFrom cX3_copyFrom 3 none) { frames := 1, cells := 0, slots := 0, locals := 24 } (wPc D Y ad N [.ref (ad st), .ref (ad so)] C) (wQv D ad N (fun C' => isLog Y ad C' st f2 ∧ ∀ j, j < st ∨ st + 6 ≤ j → C' j = C j)) 0 0 (wA ad N) := by
  obtain ⟨qs, hqs, hqs1⟩ := hs.2.1
  obtain ⟨qo, hqo, hqo1⟩ := ho.2.1
  refine wMet RX3 rfl (by decide +kernel) (Nat.le_of_ble_eq_true rfl) (lv := [(0, .ref (ad st)), (1, .ref (ad so))]) rfl ?_
  intro p e s m below meth c ls F hr hlocks hP hl
  have hS : va_S (wA ad N) s.heap s.heap [] := va_S.rf
  refine lv_iconst (v := 0) F.1 F.2.1 dX3_copyFrom_0 (by decide) ?_
  refine lv_istore_n (lv' := [(2, .int (0)), (0, .ref (ad st)), (1, .ref (ad so))]) F.1 F.2.1 dX3_copyFrom_1 rfl hl (by decide) rfl (fun ls hl => ?_)
  refine w_loop (Inv := fun j ls C' => ∃ i : Nat, j = 4 - i ∧ i ≤ 4 ∧ lv_has ls 3 [(2, .int (nI i)), (0, .ref (ad st)), (1, .ref (ad so))] ∧ isGrid Y C' (st + 2) 4 10 (fun c k => if c < i then f2 (21 + 4 * k + c) else f (21 + 4 * k + c)) ∧ (∀ j, j < st + 2 ∨ st + 6 ≤ j → C' j = C j)) ?_ 4 ⟨0, rfl, by decide, lv_sub hl [0, 1, 2] rfl, isGrid_congr hs.2.2 (fun c k _ _ => by rw [if_neg (Nat.not_lt_zero c)]), fun _ _ => rfl⟩ hP hS
  intro j ih H locs ls C1 hInv hP hS
  obtain ⟨i, hi, hi5, hl, hG, hO⟩ := hInv
  have g1 : C1 st = .inr (3, [.ref (ad (st + 1)), .int (f 20)]) := (hO _ (by omega)).trans hs.1
  have g2 : C1 so = .inr (3, [.ref (ad (so + 1)), .int (f2 20)]) := (hO _ (by omega)).trans ho.1
  have g3 : C1 (st + 1) = .inl (Y 3, 4, .inr (.inr (.inr (.inr qs)))) := (hO _ (by omega)).trans hqs
  have g4 : C1 (so + 1) = .inl (Y 3, 4, .inr (.inr (.inr (.inr qo)))) := (hO _ (by omega)).trans hqo
  refine lv_iload_n F.1 F.2.1 dX3_copyFrom_2 rfl (lv_at hl 0 rfl) ?_
  refine lv_iconst (v := 4) F.1 F.2.1 dX3_copyFrom_3 (by decide) ?_
  refine lv_icmp_ge (tgt := 32) F.1 F.2.1 dX3_copyFrom_4 (by decide) (fun c1 => ?_) (fun c1 => ?_)
  · refine lv_aload_n F.1 F.2.1 dX3_copyFrom_32 rfl (lv_at hl 1 rfl) ?_
    refine lv_aload_n F.1 F.2.1 dX3_copyFrom_33 rfl (lv_at hl 2 rfl) ?_
    refine gf_X3_14 F hP (by omega) g2 (v := .int (f2 20)) rfl dX3_copyFrom_34 ?_
    have hin : ¬ i < 4 := fun q => nI_ge (b := 4) q (by decide) c1
    refine pf_X3_14 F hI hP hS (by omega) g1 (Nat.le_of_ble_eq_true rfl) up_rfl dX3_copyFrom_37 (fun H locs hP hS => ?_)
    exact w_vret F hr hlocks hP hS dX3_copyFrom_40 ⟨⟨va_up_self _ _ _, ⟨qs, by rw [va_up_ne _ _ (by omega)]; exact g3, hqs1⟩, isGrid_off (isGrid_congr hG (fun c k hc _ => by rw [if_pos (by omega)])) (by omega)⟩, fun j hj => by rw [va_up_ne _ _ (by omega)]; exact hO j (by omega)⟩
  · have hin : i < 4 := by have q := i_lt c1; exact Nat.not_le.mp (fun z => i_nlt (nI_le z (by omega)) q)
    obtain ⟨q5, h5, h6⟩ := hG i hin
    obtain ⟨q7, h7, h8⟩ := ho.2.2 i hin
    have h7 : C1 (so + 2 + i) = .inl (Y 0, 10, .inl q7) := (hO _ (by omega)).trans h7
    refine lv_aload_n F.1 F.2.1 dX3_copyFrom_7 rfl (lv_at hl 2 rfl) ?_
    refine gf_X3_11 F hP (by omega) g2 (v := .ref (ad (so + 1))) rfl dX3_copyFrom_8 ?_
    refine lv_iload_n F.1 F.2.1 dX3_copyFrom_11 rfl (lv_at hl 0 rfl) ?_
    refine w_gald F hP (by omega) g4 (k := i) rfl hin (Nat.le_of_ble_eq_true rfl) (v := ad (so + 2 + i)) (hqo1 i hin) dX3_copyFrom_12 ?_
    refine lv_iconst (v := 0) F.1 F.2.1 dX3_copyFrom_13 (by decide) ?_
    refine lv_aload_n F.1 F.2.1 dX3_copyFrom_14 rfl (lv_at hl 1 rfl) ?_
    refine gf_X3_11 F hP (by omega) g1 (v := .ref (ad (st + 1))) rfl dX3_copyFrom_15 ?_
    refine lv_iload_n F.1 F.2.1 dX3_copyFrom_18 rfl (lv_at hl 0 rfl) ?_
    refine w_gald F hP (by omega) g3 (k := i) rfl hin (Nat.le_of_ble_eq_true rfl) (v := ad (st + 2 + i)) (hqs1 i hin) dX3_copyFrom_19 ?_
    refine lv_iconst (v := 0) F.1 F.2.1 dX3_copyFrom_20 (by decide) ?_
    refine lv_bipush (v := 10) F.1 F.2.1 dX3_copyFrom_21 (by decide) ?_
    refine w_acpy F hI hl.1 hP hS mw_164 (h0 := so + 2 + i) (h1 := st + 2 + i) (by omega) (by omega) h7 h5 (a := 0) (b := 0) (k := 10) rfl rfl rfl (by decide) (by decide) (by decide) (by decide) (by decide) (Nat.le_of_ble_eq_true rfl) up_rfl dX3_copyFrom_23 (fun H locs hP hS => ?_)
    have hG2 : isGrid Y (va_up C1 (st + 2 + i) (.inl (Y 0, 10, .inl (va_cpy q7 q5 0 0 10)))) (st + 2) 4 10 (fun c k => if c < i + 1 then f2 (21 + 4 * k + c) else f (21 + 4 * k + c)) := isGrid_up hG (fun k hk => by rw [pk_cpy_in (by omega) (by omega), if_pos (by omega), show 0 + (k - 0) = k by omega]; exact h8 k hk) (fun c k hc hne hk => by by_cases q : c < i <;> simp only [q, if_true, if_false] <;> first | rw [if_pos (by omega)] | rw [if_neg (by omega)])
    have hO2 : ∀ j, j < st + 2 ∨ st + 6 ≤ j → va_up C1 (st + 2 + i) (.inl (Y 0, 10, .inl (va_cpy q7 q5 0 0 10))) j = C j := fun j hj => by rw [va_up_ne _ _ (by omega)]; exact hO j hj
    refine lv_iinc (v := (nI i) + 1) (lv' := [(2, .int ((nI i) + 1)), (0, .ref (ad st)), (1, .ref (ad so))]) F.1 F.2.1 dX3_copyFrom_26 hl (k := 0) rfl rfl (by decide) rfl (fun ls hl => ?_)
    refine lv_goto (tgt := 2) F.1 F.2.1 dX3_copyFrom_29 (by decide) ?_
    exact ih _ (by omega) _ _ _ _ ⟨i + 1, rfl, by omega, (by rw [nI_succ]; exact lv_sub hl [0, 1, 2] rfl), hG2, hO2⟩ hP hS

