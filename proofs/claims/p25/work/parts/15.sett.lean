/-! HoopStairs$Settings -/
/-- may a setting be so -/
abbrev T_can (x v : Int32) : Prop := (x = 0 ∧ 10 ≤ v ∧ v ≤ 99) ∨ ((x = 1 ∨ x = 2) ∧ 0 ≤ v ∧ v ≤ 20) ∨ (x = 3 ∧ 1 ≤ v ∧ v ≤ 30)
theorem can_iff {k : Nat} (hk : k < 4) {v : Int32} : T_can (nI k) v ↔ LEv k ≤ v ∧ v ≤ GRv k := by
  match k, hk with
  | 0, _ => exact ⟨fun h => by rcases h with h | h | h; exact h.2; exact absurd h.1 (by decide); exact absurd h.1 (by decide), fun h => Or.inl ⟨rfl, h⟩⟩
  | 1, _ => exact ⟨fun h => by rcases h with h | h | h; exact absurd h.1 (by decide); exact h.2; exact absurd h.1 (by decide), fun h => Or.inr (Or.inl ⟨Or.inl rfl, h⟩)⟩
  | 2, _ => exact ⟨fun h => by rcases h with h | h | h; exact absurd h.1 (by decide); exact h.2; exact absurd h.1 (by decide), fun h => Or.inr (Or.inl ⟨Or.inr rfl, h⟩)⟩
  | 3, _ => exact ⟨fun h => by rcases h with h | h | h; exact absurd h.1 (by decide); exact absurd h.1 (by decide); exact h.2, fun h => Or.inr (Or.inr ⟨rfl, h⟩)⟩
  | k + 4, h => exact absurd h (by omega)
theorem can_in {x v : Int32} (h : T_can x v) : ∃ k : Nat, k < 4 ∧ x = nI k := by
  rcases h with h | h | h
  · exact ⟨0, by decide, h.1⟩
  · rcases h.1 with q | q
    · exact ⟨1, by decide, q⟩
    · exact ⟨2, by decide, q⟩
  · exact ⟨3, by decide, h.1⟩
theorem in4 {x : Int32} (h1 : ¬ x < 0) (h2 : ¬ 4 ≤ x) : ∃ k : Nat, k < 4 ∧ x = nI k := by
  obtain ⟨j, hj, rfl⟩ := nI_of h1
  refine ⟨j, ?_, rfl⟩
  exact Nat.not_le.mp (fun q => h2 (nI_le (a := 4) q hj))
set_option maxRecDepth 20000 in
set_option maxHeartbeats 4000000 in
/-- settings copied -/
theorem c_X4_copyFrom (l : Launch) (D : va_G) (Y : Nat → ClassId) (ad : Nat → Nat) (N : Nat) (hI : wI ad N) (C : Nat → va_E) (st so : Nat) (hh : st + 1 < N) (hh2 : so + 1 < N) (hd : st + 2 ≤ so ∨ so + 2 ≤ st) (f f2 : Nat → Int32) (hs : isSett Y ad C st f) (ho : isSett Y ad C so f2) : Met l yX4_copyFrom (wm yX4_copyFrom cX4_copyFrom 2 none) { frames := 1, cells := 0, slots := 0, locals := 24 } (wPc D Y ad N [.ref (ad st), .ref (ad so)] C) (wQv D ad N (fun C' => isSett Y ad C' st f2 ∧ ∀ j, j < st ∨ st + 2 ≤ j → C' j = C j)) 0 0 (wA ad N) := by
  obtain ⟨q1, h1, h1q⟩ := hs.2
  obtain ⟨q2, h2, h2q⟩ := ho.2
  refine wMet RX4 rfl (by decide +kernel) (Nat.le_of_ble_eq_true rfl) (lv := [(0, .ref (ad st)), (1, .ref (ad so))]) rfl ?_
  intro p e s m below meth c ls F hr hlocks hP hl
  have hS : va_S (wA ad N) s.heap s.heap [] := va_S.rf
  refine lv_aload_n F.1 F.2.1 dX4_copyFrom_0 rfl (lv_at hl 1 rfl) ?_
  refine gf_X4_18 F hP (by omega) ho.1 (v := .ref (ad (so + 1))) rfl dX4_copyFrom_1 ?_
  refine lv_iconst (v := 0) F.1 F.2.1 dX4_copyFrom_4 (by decide) ?_
  refine lv_aload_n F.1 F.2.1 dX4_copyFrom_5 rfl (lv_at hl 0 rfl) ?_
  refine gf_X4_18 F hP (by omega) hs.1 (v := .ref (ad (st + 1))) rfl dX4_copyFrom_6 ?_
  refine lv_iconst (v := 0) F.1 F.2.1 dX4_copyFrom_9 (by decide) ?_
  refine lv_iconst (v := 4) F.1 F.2.1 dX4_copyFrom_10 (by decide) ?_
  refine w_acpy F hI hl.1 hP hS mw_141 (h0 := so + 1) (h1 := st + 1) (by omega) (by omega) h2 h1 (a := 0) (b := 0) (k := 4) rfl rfl rfl (by decide) (by decide) (by decide) (by decide) (by decide) (Nat.le_of_ble_eq_true rfl) up_rfl dX4_copyFrom_11 (fun H locs hP hS => ?_)
  exact w_vret F hr hlocks hP hS dX4_copyFrom_14 ⟨⟨(va_up_ne _ _ (by omega)).trans hs.1, _, va_up_self _ _ _, fun i hi => by rw [pk_cpy_in (by omega) (by omega), show 0 + (i - 0) = i by omega]; exact h2q i hi⟩, fun j hj => va_up_ne _ _ (by omega)⟩
set_option maxRecDepth 20000 in
set_option maxHeartbeats 4000000 in
/-- may a setting be so -/
theorem c_X4_allows (l : Launch) (D : va_G) (Y : Nat → ClassId) (ad : Nat → Nat) (N : Nat) (hI : wI ad N) (C : Nat → va_E) (st : Nat) (hh : st < N) (fs : List Value) (hs : C st = .inr (4, fs)) (x v : Int32) : Met l yX4_allows (wm yX4_allows cX4_allows 3 (some .boolean)) { frames := 0, cells := 0, slots := 0, locals := 0 } (wPc D Y ad N [.ref (ad st), .int (x), .int (v)] C) (wQi D ad N (fun r C' => C' = C ∧ r = if T_can x v then 1 else 0)) 0 0 (wA ad N) := by
  refine wMet RX4 rfl (by decide +kernel) (Nat.le_of_ble_eq_true rfl) (lv := [(0, .ref (ad st)), (1, .int (x)), (2, .int (v))]) rfl ?_
  intro p e s m below meth c ls F hr hlocks hP hl
  have hS : va_S (wA ad N) s.heap s.heap [] := va_S.rf
  refine lv_iload_n F.1 F.2.1 dX4_allows_0 rfl (lv_at hl 1 rfl) ?_
  refine lv_if_lt (tgt := 31) F.1 F.2.1 dX4_allows_1 (by decide) (fun c1 => ?_) (fun c1 => ?_)
  · refine lv_iconst (v := 0) F.1 F.2.1 dX4_allows_31 (by decide) ?_
    exact w_zret F hr hlocks hP hS (Or.inl rfl) dX4_allows_32 ⟨rfl, by rw [if_neg (fun q => by obtain ⟨k, hk, ek⟩ := can_in q; rw [ek] at c1; exact nI_pos (by omega) c1)]⟩
  · refine lv_iload_n F.1 F.2.1 dX4_allows_4 rfl (lv_at hl 1 rfl) ?_
    refine lv_iconst (v := 4) F.1 F.2.1 dX4_allows_5 (by decide) ?_
    refine lv_icmp_ge (tgt := 31) F.1 F.2.1 dX4_allows_6 (by decide) (fun c2 => ?_) (fun c2 => ?_)
    · refine lv_iconst (v := 0) F.1 F.2.1 dX4_allows_31 (by decide) ?_
      exact w_zret F hr hlocks hP hS (Or.inl rfl) dX4_allows_32 ⟨rfl, by rw [if_neg (fun q => by obtain ⟨k, hk, ek⟩ := can_in q; rw [ek] at c2; exact nI_ge (b := 4) hk (by decide) c2)]⟩
    · refine lv_iload_n F.1 F.2.1 dX4_allows_9 rfl (lv_at hl 2 rfl) ?_
      obtain ⟨k, hk, ek⟩ := in4 c1 c2
      obtain ⟨t1, hz1, ht1⟩ := F.2.2.2.2.2.2.2.1
      obtain ⟨t2, hz2, ht2⟩ := F.2.2.2.2.2.2.2.2.1
      refine va_gets F.1 F.2.1 hz1 hS F.2.2.2.1 (F.2.2.2.2.1 _ mw_119) (fun _ h9 => h9) dX4_allows_10 ?_
      refine lv_iload_n F.1 F.2.1 dX4_allows_13 rfl (lv_at hl 1 rfl) ?_
      refine w_stab F hS ht1 (k := k) ek hk (v := LEv k) rfl dX4_allows_14 ?_
      refine lv_icmp_lt (tgt := 31) F.1 F.2.1 dX4_allows_15 (by decide) (fun c3 => ?_) (fun c3 => ?_)
      · refine lv_iconst (v := 0) F.1 F.2.1 dX4_allows_31 (by decide) ?_
        exact w_zret F hr hlocks hP hS (Or.inl rfl) dX4_allows_32 ⟨rfl, by rw [ek, if_neg (fun q => i_nle c3 ((can_iff hk).mp q).1)]⟩
      · refine lv_iload_n F.1 F.2.1 dX4_allows_18 rfl (lv_at hl 2 rfl) ?_
        refine va_gets F.1 F.2.1 hz2 hS F.2.2.2.1 (F.2.2.2.2.1 _ mw_120) (fun _ h9 => h9) dX4_allows_19 ?_
        refine lv_iload_n F.1 F.2.1 dX4_allows_22 rfl (lv_at hl 1 rfl) ?_
        refine w_stab F hS ht2 (k := k) ek hk (v := GRv k) rfl dX4_allows_23 ?_
        refine lv_icmp_gt (tgt := 31) F.1 F.2.1 dX4_allows_24 (by decide) (fun c4 => ?_) (fun c4 => ?_)
        · refine lv_iconst (v := 0) F.1 F.2.1 dX4_allows_31 (by decide) ?_
          exact w_zret F hr hlocks hP hS (Or.inl rfl) dX4_allows_32 ⟨rfl, by rw [ek, if_neg (fun q => i_nlt ((can_iff hk).mp q).2 c4)]⟩
        · refine lv_iconst (v := 1) F.1 F.2.1 dX4_allows_27 (by decide) ?_
          refine lv_goto (tgt := 32) F.1 F.2.1 dX4_allows_28 (by decide) ?_
          exact w_zret F hr hlocks hP hS (Or.inr rfl) dX4_allows_32 ⟨rfl, by rw [ek, if_pos ((can_iff hk).mpr ⟨i_le c3, i_le c4⟩)]⟩
set_option maxRecDepth 20000 in
set_option maxHeartbeats 4000000 in
/-- a setting changes -/
theorem c_X4_change (l : Launch) (D : va_G) (Y : Nat → ClassId) (ad : Nat → Nat) (N : Nat) (hI : wI ad N) (C : Nat → va_E) (st : Nat) (hh : st + 1 < N) (f : Nat → Int32) (hs : isSett Y ad C st f) (k : Nat) (v : Int32) (hk : k < 4) (hc : T_can (nI k) v) : Met l yX4_change (wm yX4_change cX4_change 4 (some .int)) { frames := 1, cells := 0, slots := 0, locals := 22 } (wPc D Y ad N [.ref (ad st), .int (nI k), .int (v)] C) (wQi D ad N (fun r C' => r = f k ∧ isSett Y ad C' st (upd f k v) ∧ ∀ j, j < st ∨ st + 2 ≤ j → C' j = C j)) 0 0 (wA ad N) := by
  obtain ⟨q1, h1, h1q⟩ := hs.2
  refine wMet RX4 rfl (by decide +kernel) (Nat.le_of_ble_eq_true rfl) (lv := [(0, .ref (ad st)), (1, .int (nI k)), (2, .int (v))]) rfl ?_
  intro p e s m below meth c ls F hr hlocks hP hl
  have hS : va_S (wA ad N) s.heap s.heap [] := va_S.rf
  refine lv_aload_n F.1 F.2.1 dX4_change_0 rfl (lv_at hl 0 rfl) ?_
  refine lv_iload_n F.1 F.2.1 dX4_change_1 rfl (lv_at hl 1 rfl) ?_
  refine w_calli F hP hS (c_X4_value l D Y ad N hI _ st hh f hs k hk) (cwVm 1 F.2.2.2.2.1 (fun _ h => h) mw_172 mw_169 mw_170 mw_171 mw_38 rfl rfl ydX4_value ⟨by decide, by decide⟩) (by omega) hs.1 rfl rfl hl.1 rfl (Nat.le_of_ble_eq_true rfl) dX4_change_2 ⟨Nat.zero_le _, Nat.zero_le _⟩ (fun r C2 H locs hq hP hS => ?_)
  obtain ⟨hq1, hq2⟩ := hq; rw [hq1] at hP; subst hq2
  refine lv_istore_n (lv' := [(3, .int (f k)), (0, .ref (ad st)), (1, .int (nI k)), (2, .int (v))]) F.1 F.2.1 dX4_change_5 rfl hl (by decide) rfl (fun ls hl => ?_)
  refine lv_aload_n F.1 F.2.1 dX4_change_6 rfl (lv_at hl 1 rfl) ?_
  refine lv_iload_n F.1 F.2.1 dX4_change_7 rfl (lv_at hl 2 rfl) ?_
  refine lv_iload_n F.1 F.2.1 dX4_change_8 rfl (lv_at hl 3 rfl) ?_
  refine w_calli F hP hS (c_X4_allows l D Y ad N hI _ st (by omega) _ hs.1 (nI k) v) (cwVm 2 F.2.2.2.2.1 (fun _ h => h) mw_118 mw_173 mw_116 mw_117 mw_38 rfl rfl ydX4_allows ⟨by decide, by decide⟩) (by omega) hs.1 rfl rfl hl.1 rfl (Nat.le_of_ble_eq_true rfl) dX4_change_9 ⟨Nat.zero_le _, Nat.zero_le _⟩ (fun r C2 H locs hq hP hS => ?_)
  obtain ⟨hq1, hq2⟩ := hq; rw [hq1] at hP; rw [if_pos hc] at hq2; subst hq2
  refine lv_if_eq (tgt := 22) F.1 F.2.1 dX4_change_12 (by decide) (fun c1 => False.elim (absurd c1 (by decide))) (fun c1 => ?_)
  refine lv_aload_n F.1 F.2.1 dX4_change_15 rfl (lv_at hl 1 rfl) ?_
  refine gf_X4_18 F hP (by omega) hs.1 (v := .ref (ad (st + 1))) rfl dX4_change_16 ?_
  refine lv_iload_n F.1 F.2.1 dX4_change_19 rfl (lv_at hl 2 rfl) ?_
  refine lv_iload_n F.1 F.2.1 dX4_change_20 rfl (lv_at hl 3 rfl) ?_
  refine w_iast F hI hP hS (by omega) h1 (k := k) rfl hk (by decide) (C1 := va_up C (st + 1) (.inl (Y 0, 4, .inl (upd q1 k v)))) (fun j => rfl) dX4_change_21 (fun H locs hP hS => ?_)
  refine lv_iload_n F.1 F.2.1 dX4_change_22 rfl (lv_at hl 0 rfl) ?_
  exact w_iret F hr hlocks hP hS dX4_change_23 ⟨rfl, ⟨(va_up_ne _ _ (by omega)).trans hs.1, _, va_up_self _ _ _, fun i hi => by unfold upd; by_cases a : i = k <;> simp only [a, if_true, if_false] <;> first | rfl | exact h1q i hi⟩, fun j hj => va_up_ne _ _ (by omega)⟩

