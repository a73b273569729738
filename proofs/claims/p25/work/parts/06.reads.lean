/-! Settings and Stair: reads -/
/-- settings at se -/
def isSett (Y : Nat → ClassId) (ad : Nat → Nat) (C : Nat → va_E) (se : Nat) (f : Nat → Int32) : Prop :=
  C se = .inr (4, [.ref (ad (se + 1))]) ∧ ∃ q : Nat → Int32, C (se + 1) = .inl (Y 0, 4, .inl q) ∧ ∀ i, i < 4 → q i = f i
/-- a stair at st: its object, the grid, five columns -/
def isStair (Y : Nat → ClassId) (ad : Nat → Nat) (C : Nat → va_E) (st : Nat) (f : Nat → Int32) : Prop :=
  C st = .inr (5, [.ref (ad (st + 1)), .int (f 4)]) ∧ (∃ q : Nat → Option Nat, C (st + 1) = .inl (Y 3, 5, .inr (.inr (.inr (.inr q)))) ∧ ∀ i, i < 5 → q i = some (ad (st + 2 + i))) ∧
  ∀ i, i < 5 → ∃ q : Nat → Int32, C (st + 2 + i) = .inl (Y 0, 20, .inl q) ∧ ∀ k, k < 20 → q k = f (61 + 5 * k + i)
set_option maxRecDepth 20000 in
set_option maxHeartbeats 4000000 in
/-- a setting -/
theorem c_X4_value (l : Launch) (D : va_G) (Y : Nat → ClassId) (ad : Nat → Nat) (N : Nat) (hI : wI ad N) (C : Nat → va_E) (se : Nat) (hh : se + 1 < N) (f : Nat → Int32) (hs : isSett Y ad C se f) (k : Nat) (hk : k < 4) : Met l yX4_value (wm yX4_value cX4_value 2 (some .int)) { frames := 0, cells := 0, slots := 0, locals := 0 } (wPc D Y ad N [.ref (ad se), .int (nI k)] C) (wQi D ad N (fun r C' => C' = C ∧ r = f k)) 0 0 (wA ad N) := by
  obtain ⟨q, h1, h1q⟩ := hs.2
  refine wMet RX4 rfl (by decide +kernel) (Nat.le_of_ble_eq_true rfl) (lv := [(0, .ref (ad se)), (1, .int (nI k))]) rfl ?_
  intro p e s m below meth c ls F hr hlocks hP hl
  have hS : va_S (wA ad N) s.heap s.heap [] := va_S.rf
  refine lv_iload_n F.1 F.2.1 dX4_value_0 rfl (lv_at hl 1 rfl) ?_
  refine lv_if_lt (tgt := 18) F.1 F.2.1 dX4_value_1 (by decide) (fun c1 => False.elim (nI_pos (by omega) c1)) (fun c1 => ?_)
  refine lv_iload_n F.1 F.2.1 dX4_value_4 rfl (lv_at hl 1 rfl) ?_
  refine lv_iconst (v := 4) F.1 F.2.1 dX4_value_5 (by decide) ?_
  refine lv_icmp_ge (tgt := 18) F.1 F.2.1 dX4_value_6 (by decide) (fun c2 => False.elim (nI_ge (b := 4) hk (by decide) c2)) (fun c2 => ?_)
  refine lv_aload_n F.1 F.2.1 dX4_value_9 rfl (lv_at hl 0 rfl) ?_
  refine gf_X4_18 F hP (by omega) hs.1 (v := .ref (ad (se + 1))) rfl dX4_value_10 ?_
  refine lv_iload_n F.1 F.2.1 dX4_value_13 rfl (lv_at hl 1 rfl) ?_
  refine w_iald F hP (by omega) h1 (k := k) rfl hk (Nat.le_of_ble_eq_true rfl) (v := f k) (h1q k hk) dX4_value_14 ?_
  refine lv_goto (tgt := 19) F.1 F.2.1 dX4_value_15 (by decide) ?_
  exact w_iret F hr hlocks hP hS dX4_value_19 ⟨rfl, rfl⟩
set_option maxRecDepth 20000 in
set_option maxHeartbeats 4000000 in
/-- is there a part -/
theorem c_X5_has (l : Launch) (D : va_G) (Y : Nat → ClassId) (ad : Nat → Nat) (N : Nat) (hI : wI ad N) (C : Nat → va_E) (st : Nat) (hh : st < N) (gr : Nat) (n : Int32) (hC : C st = .inr (5, [.ref gr, .int n])) (x : Int32) : Met l yX5_has (wm yX5_has cX5_has 2 (some .boolean)) { frames := 0, cells := 0, slots := 0, locals := 0 } (wPc D Y ad N [.ref (ad st), .int (x)] C) (wQi D ad N (fun r C' => C' = C ∧ r = if 0 ≤ x ∧ x < n ∧ x < 20 then 1 else 0)) 0 0 (wA ad N) := by
  refine wMet RX5 rfl (by decide +kernel) (Nat.le_of_ble_eq_true rfl) (lv := [(0, .ref (ad st)), (1, .int (x))]) rfl ?_
  intro p e s m below meth c ls F hr hlocks hP hl
  have hS : va_S (wA ad N) s.heap s.heap [] := va_S.rf
  refine lv_iload_n F.1 F.2.1 dX5_has_0 rfl (lv_at hl 1 rfl) ?_
  refine lv_if_lt (tgt := 22) F.1 F.2.1 dX5_has_1 (by decide) (fun c1 => ?_) (fun c1 => ?_)
  · refine lv_iconst (v := 0) F.1 F.2.1 dX5_has_22 (by decide) ?_
    exact w_zret F hr hlocks hP hS (Or.inl rfl) dX5_has_23 ⟨rfl, by rw [if_neg (fun q => i_nle c1 q.1)]⟩
  · refine lv_iload_n F.1 F.2.1 dX5_has_4 rfl (lv_at hl 1 rfl) ?_
    refine lv_aload_n F.1 F.2.1 dX5_has_5 rfl (lv_at hl 0 rfl) ?_
    refine gf_X5_14 F hP hh hC (v := .int (n)) rfl dX5_has_6 ?_
    refine lv_icmp_ge (tgt := 22) F.1 F.2.1 dX5_has_9 (by decide) (fun c2 => ?_) (fun c2 => ?_)
    · refine lv_iconst (v := 0) F.1 F.2.1 dX5_has_22 (by decide) ?_
      exact w_zret F hr hlocks hP hS (Or.inl rfl) dX5_has_23 ⟨rfl, by rw [if_neg (fun q => i_nlt c2 q.2.1)]⟩
    · refine lv_iload_n F.1 F.2.1 dX5_has_12 rfl (lv_at hl 1 rfl) ?_
      refine lv_bipush (v := 20) F.1 F.2.1 dX5_has_13 (by decide) ?_
      refine lv_icmp_ge (tgt := 22) F.1 F.2.1 dX5_has_15 (by decide) (fun c3 => ?_) (fun c3 => ?_)
      · refine lv_iconst (v := 0) F.1 F.2.1 dX5_has_22 (by decide) ?_
        exact w_zret F hr hlocks hP hS (Or.inl rfl) dX5_has_23 ⟨rfl, by rw [if_neg (fun q => i_nlt c3 q.2.2)]⟩
      · refine lv_iconst (v := 1) F.1 F.2.1 dX5_has_18 (by decide) ?_
        refine lv_goto (tgt := 23) F.1 F.2.1 dX5_has_19 (by decide) ?_
        exact w_zret F hr hlocks hP hS (Or.inr rfl) dX5_has_23 ⟨rfl, by rw [if_pos ⟨i_le c1, i_lt c2, i_lt c3⟩]⟩
set_option maxRecDepth 20000 in
set_option maxHeartbeats 4000000 in
/-- what stands in a column -/
theorem c_X5_entry (l : Launch) (D : va_G) (Y : Nat → ClassId) (ad : Nat → Nat) (N : Nat) (hI : wI ad N) (C : Nat → va_E) (st : Nat) (hh : st + 6 < N) (f : Nat → Int32) (hs : isStair Y ad C st f) (k j : Nat) (hk : k < 20) (hkn : nI k < f 4) (hj : j < 5) : Met l yX5_entry (wm yX5_entry cX5_entry 3 (some .int)) { frames := 1, cells := 0, slots := 0, locals := 21 } (wPc D Y ad N [.ref (ad st), .int (nI k), .int (nI j)] C) (wQi D ad N (fun r C' => C' = C ∧ r = f (61 + 5 * k + j))) 0 0 (wA ad N) := by
  obtain ⟨qg, hg, hgq⟩ := hs.2.1
  obtain ⟨q, h1, h1q⟩ := hs.2.2 j hj
  refine wMet RX5 rfl (by decide +kernel) (Nat.le_of_ble_eq_true rfl) (lv := [(0, .ref (ad st)), (1, .int (nI k)), (2, .int (nI j))]) rfl ?_
  intro p e s m below meth c ls F hr hlocks hP hl
  have hS : va_S (wA ad N) s.heap s.heap [] := va_S.rf
  refine lv_aload_n F.1 F.2.1 dX5_entry_0 rfl (lv_at hl 0 rfl) ?_
  refine lv_iload_n F.1 F.2.1 dX5_entry_1 rfl (lv_at hl 1 rfl) ?_
  refine w_calli F hP hS (c_X5_has l D Y ad N hI _ st (by omega) _ _ hs.1 (nI k)) (cwVm 1 F.2.2.2.2.1 (fun _ h => h) mw_234 mw_243 mw_232 mw_233 mw_42 rfl rfl ydX5_has ⟨by decide, by decide⟩) (by omega) hs.1 rfl rfl hl.1 rfl (Nat.le_of_ble_eq_true rfl) dX5_entry_2 ⟨Nat.zero_le _, Nat.zero_le _⟩ (fun r C2 H locs hq hP hS => ?_)
  obtain ⟨hq1, hq2⟩ := hq; rw [hq1] at hP
  rw [(if_pos ⟨nI_pos' (by omega), hkn, nI_lt hk (by decide)⟩)] at hq2; subst hq2
  refine lv_if_eq (tgt := 17) F.1 F.2.1 dX5_entry_5 (by decide) (fun c1 => False.elim (absurd c1 (by decide))) (fun c1 => ?_)
  refine lv_iload_n F.1 F.2.1 dX5_entry_8 rfl (lv_at hl 2 rfl) ?_
  refine lv_if_lt (tgt := 17) F.1 F.2.1 dX5_entry_9 (by decide) (fun c2 => False.elim (nI_pos (by omega) c2)) (fun c2 => ?_)
  refine lv_iload_n F.1 F.2.1 dX5_entry_12 rfl (lv_at hl 2 rfl) ?_
  refine lv_iconst (v := 5) F.1 F.2.1 dX5_entry_13 (by decide) ?_
  refine lv_icmp_lt (tgt := 19) F.1 F.2.1 dX5_entry_14 (by decide) (fun c3 => ?_) (fun c3 => False.elim (c3 (nI_lt hj (by decide))))
  refine lv_aload_n F.1 F.2.1 dX5_entry_19 rfl (lv_at hl 0 rfl) ?_
  refine gf_X5_11 F hP (by omega) hs.1 (v := .ref (ad (st + 1))) rfl dX5_entry_20 ?_
  refine lv_iload_n F.1 F.2.1 dX5_entry_23 rfl (lv_at hl 2 rfl) ?_
  refine w_gald F hP (by omega) hg (k := j) rfl hj (Nat.le_of_ble_eq_true rfl) (v := ad (st + 2 + j)) (hgq j hj) dX5_entry_24 ?_
  refine lv_iload_n F.1 F.2.1 dX5_entry_25 rfl (lv_at hl 1 rfl) ?_
  refine w_iald F hP (by omega) h1 (k := k) rfl hk (Nat.le_of_ble_eq_true rfl) (v := f (61 + 5 * k + j)) (h1q k hk) dX5_entry_26 ?_
  exact w_iret F hr hlocks hP hS dX5_entry_27 ⟨rfl, rfl⟩

