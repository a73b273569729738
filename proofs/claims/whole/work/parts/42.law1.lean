/-! The law: its loop -/
theorem clsA_same {Y : Nat → ClassId} {ad : Nat → Nat} {C C' : Nat → va_E} {o : Nat} {f : Nat → Int32} {hs : Nat → Nat → Int32} {kn : Nat} {sl : Nat → Nat → Int32} {sv pd : Nat → Int32} {n : Nat} (h : clsA Y ad C o f hs kn sl sv pd n) (hq : ∀ j, o ≤ j → j < o + 170 → C' j = C j) : clsA Y ad C' o f hs kn sl sv pd n := by
  obtain ⟨FF, GG, nx, fl, hc, rest⟩ := h
  exact ⟨FF, GG, nx, fl, cls_same hc hq, rest⟩
theorem mdlA_same {Y : Nat → ClassId} {ad : Nat → Nat} {C C' : Nat → va_E} {o : Nat} {f : Nat → Int32} {hs : Nat → Nat → Int32} {kn : Nat} {sl : Nat → Nat → Int32} {sv pd : Nat → Int32} {n : Nat} (h : mdlA Y ad C o f hs kn sl sv pd n) (hq : ∀ j, o ≤ j → j < o + 6 → C' j = C j) : mdlA Y ad C' o f hs kn sl sv pd n := by
  obtain ⟨s0, pa, sla, gr, h1, h2, h3, h4, h5, h6, h7, h8, h9, h10⟩ := h
  exact ⟨s0, pa, sla, gr, (hq _ (by omega) (by omega)).trans h1, (hq _ (by omega) (by omega)).trans h2, h3, h4, (hq _ (by omega) (by omega)).trans h5, h6, (hq _ (by omega) (by omega)).trans h7, h8, (hq _ (by omega) (by omega)).trans h9, (hq _ (by omega) (by omega)).trans h10⟩
theorem clsA_at {Y : Nat → ClassId} {ad : Nat → Nat} {C : Nat → va_E} {o : Nat} {f : Nat → Int32} {hs : Nat → Nat → Int32} {kn : Nat} {sl : Nat → Nat → Int32} {sv pd : Nat → Int32} {n : Nat} (h : clsA Y ad C o f hs kn sl sv pd n) : C o = .inr (7, [.ref (ad (o + 1)), .ref (ad (o + 19)), .ref (ad (o + 129)), .ref (ad (o + 166)), .ref (ad (o + 167)), .ref (ad (o + 169))]) := by
  obtain ⟨FF, GG, nx, fl, hc, rest⟩ := h
  exact hc.1
theorem mdlA_at {Y : Nat → ClassId} {ad : Nat → Nat} {C : Nat → va_E} {o : Nat} {f : Nat → Int32} {hs : Nat → Nat → Int32} {kn : Nat} {sl : Nat → Nat → Int32} {sv pd : Nat → Int32} {n : Nat} (h : mdlA Y ad C o f hs kn sl sv pd n) : ∃ gr, C o = mdO ad o (nI kn) (nI n) gr := by
  obtain ⟨s0, pa, sla, gr, h1, rest⟩ := h
  exact ⟨gr, h1⟩
/-- behind k calls: both hold one state of the document's -/
def LINV (Y : Nat → ClassId) (ad : Nat → Nat) (C : Nat → va_E) (k : Nat) : Prop :=
  ∃ (f : Nat → Int32) (hs : Nat → Nat → Int32) (kn : Nat) (sl : Nat → Nat → Int32) (sv pd : Nat → Int32) (n : Nat), clsA Y ad C 0 f hs kn sl sv pd n ∧ mdlA Y ad C 170 f hs kn sl sv pd n ∧ okRow (60000 * k) f ∧ (∀ i, i < kn → okRow (60000 * k) (hs i)) ∧ ∀ i, i < 2 → okRow (60000 * k) (sl i)
theorem up1 {k : Nat} {g : Nat → Int32} (h : okRow (60000 * k) g) : okRow (60000 * ((k + 1 : Nat) : Int)) g := okRow_mono (by omega) h
theorem rec_ok {B : Int} {f : Nat → Int32} {hs : Nat → Nat → Int32} {kn : Nat} (hk : kn ≤ 6) (h : okRow B f) (hh : ∀ i, i < kn → okRow B (hs i)) : ∀ i, i < K_rec kn → okRow B (H_rec f hs kn i) := by
  intro i hi
  unfold K_rec at hi
  unfold H_rec
  by_cases a : kn = 6
  · rw [if_pos a] at hi
    rw [if_pos a]
    by_cases b : i < 5
    · rw [if_pos b]; exact hh _ (by omega)
    · rw [if_neg b]; exact h
  · rw [if_neg a] at hi
    rw [if_neg a]
    by_cases b : i = kn
    · rw [if_pos b]; exact h
    · rw [if_neg b]; exact hh _ (by omega)
theorem e_c {c : Prop} [Decidable c] {d : Int32} (h : (if c then (0 : Int32) else d) = 0) (hd : ¬ d = 0) : c := by
  by_cases q : c
  · exact q
  · rw [if_neg q] at h; exact absurd h hd
theorem clsA_kn {Y : Nat → ClassId} {ad : Nat → Nat} {C : Nat → va_E} {o : Nat} {f : Nat → Int32} {hs : Nat → Nat → Int32} {kn : Nat} {sl : Nat → Nat → Int32} {sv pd : Nat → Int32} {n : Nat} (h : clsA Y ad C o f hs kn sl sv pd n) : kn ≤ 6 := by
  obtain ⟨FF, GG, nx, fl, hc, h1, h2, rest⟩ := h
  exact h2
theorem law_le {L k : Nat} (hL : L ≤ 2048) (h : ¬ nI L - 4 < nI (4 * k)) (hk : k ≤ 512) : 4 * k + 4 ≤ L := by
  have e1 : (nI L).toInt = L := nI_toInt (by omega)
  have e2 : (nI (4 * k)).toInt = ((4 * k : Nat) : Int) := nI_toInt (by omega)
  have t : (4 : Int32).toInt = 4 := rfl
  have s := i_sub (a := nI L) (b := 4) (by omega) (by omega)
  rw [Int32.lt_iff_toInt_lt] at h
  omega
set_option maxRecDepth 20000 in
set_option maxHeartbeats 2000000 in
theorem law_case_0 {p : Program} {l : Launch} {e : Env} {s : State} {m : MethodId} {below : List Frame} {meth : Method} {c : Code} {D : va_G} {Y : Nat → ClassId} {ad : Nat → Nat} (hI : wI ad 176) {b L : Nat} {xs : Nat → Int32} (hL : L ≤ 2048) (F : wFix p s m c #[Value.ref b] cL_law RL 4 D Y ad 176) (hX : va_X b L xs s s.heap) (hbl : b < s.heap.size) (hbA : ¬ wA ad 176 b) {cells slots : Nat} (hcs : cells ≤ room_1.cells ∧ slots ≤ room_1.slots) {Q : State → Prop} {k : Nat} (hk : k ≤ 512) (hkL : 4 * k + 4 ≤ L) {H : Heap} {locs : List Loc} {C : Nat → va_E} (hP : wP D ad 176 C H) (hS : va_S (wA ad 176) s.heap H locs) {ls : Array Slot} (hl : lv_has ls 4 [(3, .int (nI (4 * k))), (0, .ref b), (1, .ref (ad 0)), (2, .ref (ad 170))]) {f : Nat → Int32} {hs : Nat → Nat → Int32} {kn : Nat} {sl : Nat → Nat → Int32} {sv pd : Nat → Int32} {n : Nat} (hA : clsA Y ad C 0 f hs kn sl sv pd n) (hM : mdlA Y ad C 170 f hs kn sl sv pd n) (hok : okRow (60000 * k) f) (hokh : ∀ i, i < kn → okRow (60000 * k) (hs i)) (hoks : ∀ i, i < 2 → okRow (60000 * k) (sl i)) (kb : ∀ (H : Heap) (locs : List Loc) (C : Nat → va_E) (ls : Array Slot), wP D ad 176 C H → va_S (wA ad 176) s.heap H locs → lv_has ls 4 [(3, .int (nI (4 * (k + 1)))), (0, .ref b), (1, .ref (ad 0)), (2, .ref (ad 170))] → LINV Y ad C (k + 1) → W p l e room_1 s m #[Value.ref b] below meth c H locs cells slots Q (F0 m 18 ls [])) : W p l e room_1 s m #[Value.ref b] below meth c H locs cells slots Q (F0 m 136 ls []) := by
  obtain ⟨x1, hx1⟩ : ∃ z, z = xs (nI (4 * k) + 1).toNatClampNeg := ⟨_, rfl⟩
  obtain ⟨x2, hx2⟩ : ∃ z, z = xs (nI (4 * k) + 2).toNatClampNeg := ⟨_, rfl⟩
  obtain ⟨x3, hx3⟩ : ∃ z, z = xs (nI (4 * k) + 3).toNatClampNeg := ⟨_, rfl⟩
  refine lv_aload_n F.1 F.2.1 dL_law_136 rfl (lv_at hl 2 rfl) ?_
  refine lv_aload_n F.1 F.2.1 dL_law_137 rfl (lv_at hl 1 rfl) ?_
  refine lv_iload_n F.1 F.2.1 dL_law_138 rfl (lv_at hl 0 rfl) ?_
  refine lv_iconst (v := 1) F.1 F.2.1 dL_law_139 (by decide) ?_
  refine lv_iadd F.1 F.2.1 dL_law_140 ?_
  refine va_sld F.1 F.2.1 hX hbl hbA hS (i := (nI (4 * k)) + 1) (by rw [show nI (4 * k) + 1 = nI (4 * k + 1) from nI_add _ 1]; exact vp_in_nI (by omega) (by omega)) dL_law_141 ?_
  refine lv_topi (fun v1 ev1 => ?_)
  have fv1 : x1 = v1 := hx1.trans ev1.symm
  subst fv1
  refine lv_aload_n F.1 F.2.1 dL_law_142 rfl (lv_at hl 1 rfl) ?_
  refine lv_iload_n F.1 F.2.1 dL_law_143 rfl (lv_at hl 0 rfl) ?_
  refine lv_iconst (v := 2) F.1 F.2.1 dL_law_144 (by decide) ?_
  refine lv_iadd F.1 F.2.1 dL_law_145 ?_
  refine va_sld F.1 F.2.1 hX hbl hbA hS (i := (nI (4 * k)) + 2) (by rw [show nI (4 * k) + 2 = nI (4 * k + 2) from nI_add _ 2]; exact vp_in_nI (by omega) (by omega)) dL_law_146 ?_
  refine lv_topi (fun v2 ev2 => ?_)
  have fv2 : x2 = v2 := hx2.trans ev2.symm
  subst fv2
  refine w_calli F hP hS (c_X7_set l D Y ad 176 hI _ 0 (by decide) f hs kn sl sv pd n hA x1 x2 (60000 * (k : Int)) hok (by omega)) (cwVm 2 F.2.2.2.2.1 (fun _ h => h) mw_114 mw_111 mw_112 mw_113 mw_2 rfl rfl ydX7_set ⟨by decide, by decide⟩) (by decide) (clsA_at hA) rfl rfl hl.1 rfl (Nat.le_of_ble_eq_true rfl) dL_law_147 hcs (fun r7 C7 H locs hq7 hP hS => ?_)
  by_cases he : (if T_can x1 x2 then (0 : Int32) else -2) = 0
  · obtain ⟨hr7, hA7, hF7⟩ := hq7.1 he
    have hM7 := mdlA_same hM (fun j a b => hF7 j (by omega))
    refine lv_aload_n F.1 F.2.1 dL_law_150 rfl (lv_at hl 3 rfl) ?_
    refine lv_aload_n F.1 F.2.1 dL_law_151 rfl (lv_at hl 1 rfl) ?_
    refine lv_iload_n F.1 F.2.1 dL_law_152 rfl (lv_at hl 0 rfl) ?_
    refine lv_iconst (v := 1) F.1 F.2.1 dL_law_153 (by decide) ?_
    refine lv_iadd F.1 F.2.1 dL_law_154 ?_
    refine va_sld F.1 F.2.1 hX hbl hbA hS (i := (nI (4 * k)) + 1) (by rw [show nI (4 * k) + 1 = nI (4 * k + 1) from nI_add _ 1]; exact vp_in_nI (by omega) (by omega)) dL_law_155 ?_
    refine lv_topi (fun v3 ev3 => ?_)
    have fv3 : x1 = v3 := hx1.trans ev3.symm
    subst fv3
    refine lv_aload_n F.1 F.2.1 dL_law_156 rfl (lv_at hl 1 rfl) ?_
    refine lv_iload_n F.1 F.2.1 dL_law_157 rfl (lv_at hl 0 rfl) ?_
    refine lv_iconst (v := 2) F.1 F.2.1 dL_law_158 (by decide) ?_
    refine lv_iadd F.1 F.2.1 dL_law_159 ?_
    refine va_sld F.1 F.2.1 hX hbl hbA hS (i := (nI (4 * k)) + 2) (by rw [show nI (4 * k) + 2 = nI (4 * k + 2) from nI_add _ 2]; exact vp_in_nI (by omega) (by omega)) dL_law_160 ?_
    refine lv_topi (fun v4 ev4 => ?_)
    have fv4 : x2 = v4 := hx2.trans ev4.symm
    subst fv4
    obtain ⟨gr8, hg8⟩ := mdlA_at hM7
    refine w_calli F hP hS (cm_X8_set l D Y ad 176 hI _ 170 (by decide) f hs kn sl sv pd n hM7 x1 x2) (cwVm 2 F.2.2.2.2.1 (fun _ h => h) mw_177 mw_174 mw_175 mw_176 mw_5 rfl rfl ydX8_set ⟨by decide, by decide⟩) (by decide) hg8 rfl rfl hl.1 rfl (Nat.le_of_ble_eq_true rfl) dL_law_161 hcs (fun r8 C8 H locs hq8 hP hS => ?_)
    obtain ⟨hr8, hM8, hF8⟩ := hq8.1 he
    have hA8 := clsA_same hA7 (fun j a b => hF8 j (by omega))
    refine lv_icmp_eq (tgt := 682) F.1 F.2.1 dL_law_164 (by decide) (fun c5 => ?_) (fun c5 => False.elim (c5 (hr7.trans hr8.symm)))
    refine lv_iinc (v := (nI (4 * k)) + 4) (lv' := [(3, .int ((nI (4 * k)) + 4)), (0, .ref (b)), (1, .ref (ad 0)), (2, .ref (ad 170))]) F.1 F.2.1 dL_law_682 hl (k := 0) rfl rfl (by decide) rfl (fun ls hl => ?_)
    refine lv_goto (tgt := 18) F.1 F.2.1 dL_law_685 (by decide) ?_
    have hcan := e_c he (by decide)
    obtain ⟨k4, hk4, ek⟩ := can_in hcan
    have ecl : x1.toNatClampNeg = k4 := by rw [ek]; exact nI_clamp (by omega)
    exact kb _ _ _ _ hP hS (by rw [show nI (4 * (k + 1)) = nI (4 * k) + 4 from (nI_add (4 * k) 4).symm]; exact lv_sub hl [0, 1, 2, 3] rfl) ⟨(upd f x1.toNatClampNeg x2), (H_rec f hs kn), (K_rec kn), sl, sv, pd, n, hA8, hM8, (up1 (by rw [ecl]; exact okRow_set hok hk4 (by rw [← ek]; exact hcan))), (rec_ok (clsA_kn hA) (up1 hok) (fun i hi => up1 (hokh i hi))), (fun i hi => up1 (hoks i hi))⟩
  · obtain ⟨hr7, hw7⟩ := hq7.2 he; rw [hw7] at hP
    refine lv_aload_n F.1 F.2.1 dL_law_150 rfl (lv_at hl 3 rfl) ?_
    refine lv_aload_n F.1 F.2.1 dL_law_151 rfl (lv_at hl 1 rfl) ?_
    refine lv_iload_n F.1 F.2.1 dL_law_152 rfl (lv_at hl 0 rfl) ?_
    refine lv_iconst (v := 1) F.1 F.2.1 dL_law_153 (by decide) ?_
    refine lv_iadd F.1 F.2.1 dL_law_154 ?_
    refine va_sld F.1 F.2.1 hX hbl hbA hS (i := (nI (4 * k)) + 1) (by rw [show nI (4 * k) + 1 = nI (4 * k + 1) from nI_add _ 1]; exact vp_in_nI (by omega) (by omega)) dL_law_155 ?_
    refine lv_topi (fun v6 ev6 => ?_)
    have fv6 : x1 = v6 := hx1.trans ev6.symm
    subst fv6
    refine lv_aload_n F.1 F.2.1 dL_law_156 rfl (lv_at hl 1 rfl) ?_
    refine lv_iload_n F.1 F.2.1 dL_law_157 rfl (lv_at hl 0 rfl) ?_
    refine lv_iconst (v := 2) F.1 F.2.1 dL_law_158 (by decide) ?_
    refine lv_iadd F.1 F.2.1 dL_law_159 ?_
    refine va_sld F.1 F.2.1 hX hbl hbA hS (i := (nI (4 * k)) + 2) (by rw [show nI (4 * k) + 2 = nI (4 * k + 2) from nI_add _ 2]; exact vp_in_nI (by omega) (by omega)) dL_law_160 ?_
    refine lv_topi (fun v7 ev7 => ?_)
    have fv7 : x2 = v7 := hx2.trans ev7.symm
    subst fv7
    obtain ⟨gr8, hg8⟩ := mdlA_at hM
    refine w_calli F hP hS (cm_X8_set l D Y ad 176 hI _ 170 (by decide) f hs kn sl sv pd n hM x1 x2) (cwVm 2 F.2.2.2.2.1 (fun _ h => h) mw_177 mw_174 mw_175 mw_176 mw_5 rfl rfl ydX8_set ⟨by decide, by decide⟩) (by decide) hg8 rfl rfl hl.1 rfl (Nat.le_of_ble_eq_true rfl) dL_law_161 hcs (fun r8 C8 H locs hq8 hP hS => ?_)
    obtain ⟨hr8, hM8, hF8⟩ := hq8.2 he
    have hA8 := clsA_same hA (fun j a b => hF8 j (by omega))
    refine lv_icmp_eq (tgt := 682) F.1 F.2.1 dL_law_164 (by decide) (fun c8 => ?_) (fun c8 => False.elim (c8 (hr7.trans hr8.symm)))
    refine lv_iinc (v := (nI (4 * k)) + 4) (lv' := [(3, .int ((nI (4 * k)) + 4)), (0, .ref (b)), (1, .ref (ad 0)), (2, .ref (ad 170))]) F.1 F.2.1 dL_law_682 hl (k := 0) rfl rfl (by decide) rfl (fun ls hl => ?_)
    refine lv_goto (tgt := 18) F.1 F.2.1 dL_law_685 (by decide) ?_
    exact kb _ _ _ _ hP hS (by rw [show nI (4 * (k + 1)) = nI (4 * k) + 4 from (nI_add (4 * k) 4).symm]; exact lv_sub hl [0, 1, 2, 3] rfl) ⟨f, hs, kn, sl, sv, pd, n, hA8, hM8, up1 hok, (fun i hi => up1 (hokh i hi)), (fun i hi => up1 (hoks i hi))⟩
set_option maxRecDepth 20000 in
set_option maxHeartbeats 2000000 in
theorem law_case_1 {p : Program} {l : Launch} {e : Env} {s : State} {m : MethodId} {below : List Frame} {meth : Method} {c : Code} {D : va_G} {Y : Nat → ClassId} {ad : Nat → Nat} (hI : wI ad 176) {b L : Nat} {xs : Nat → Int32} (hL : L ≤ 2048) (F : wFix p s m c #[Value.ref b] cL_law RL 4 D Y ad 176) (hX : va_X b L xs s s.heap) (hbl : b < s.heap.size) (hbA : ¬ wA ad 176 b) {cells slots : Nat} (hcs : cells ≤ room_1.cells ∧ slots ≤ room_1.slots) {Q : State → Prop} {k : Nat} (hk : k ≤ 512) (hkL : 4 * k + 4 ≤ L) {H : Heap} {locs : List Loc} {C : Nat → va_E} (hP : wP D ad 176 C H) (hS : va_S (wA ad 176) s.heap H locs) {ls : Array Slot} (hl : lv_has ls 4 [(3, .int (nI (4 * k))), (0, .ref b), (1, .ref (ad 0)), (2, .ref (ad 170))]) {f : Nat → Int32} {hs : Nat → Nat → Int32} {kn : Nat} {sl : Nat → Nat → Int32} {sv pd : Nat → Int32} {n : Nat} (hA : clsA Y ad C 0 f hs kn sl sv pd n) (hM : mdlA Y ad C 170 f hs kn sl sv pd n) (hok : okRow (60000 * k) f) (hokh : ∀ i, i < kn → okRow (60000 * k) (hs i)) (hoks : ∀ i, i < 2 → okRow (60000 * k) (sl i)) (kb : ∀ (H : Heap) (locs : List Loc) (C : Nat → va_E) (ls : Array Slot), wP D ad 176 C H → va_S (wA ad 176) s.heap H locs → lv_has ls 4 [(3, .int (nI (4 * (k + 1)))), (0, .ref b), (1, .ref (ad 0)), (2, .ref (ad 170))] → LINV Y ad C (k + 1) → W p l e room_1 s m #[Value.ref b] below meth c H locs cells slots Q (F0 m 18 ls [])) : W p l e room_1 s m #[Value.ref b] below meth c H locs cells slots Q (F0 m 169 ls []) := by
  obtain ⟨x1, hx1⟩ : ∃ z, z = xs (nI (4 * k) + 1).toNatClampNeg := ⟨_, rfl⟩
  obtain ⟨x2, hx2⟩ : ∃ z, z = xs (nI (4 * k) + 2).toNatClampNeg := ⟨_, rfl⟩
  obtain ⟨x3, hx3⟩ : ∃ z, z = xs (nI (4 * k) + 3).toNatClampNeg := ⟨_, rfl⟩
  refine lv_aload_n F.1 F.2.1 dL_law_169 rfl (lv_at hl 2 rfl) ?_
  refine lv_aload_n F.1 F.2.1 dL_law_170 rfl (lv_at hl 1 rfl) ?_
  refine lv_iload_n F.1 F.2.1 dL_law_171 rfl (lv_at hl 0 rfl) ?_
  refine lv_iconst (v := 1) F.1 F.2.1 dL_law_172 (by decide) ?_
  refine lv_iadd F.1 F.2.1 dL_law_173 ?_
  refine va_sld F.1 F.2.1 hX hbl hbA hS (i := (nI (4 * k)) + 1) (by rw [show nI (4 * k) + 1 = nI (4 * k + 1) from nI_add _ 1]; exact vp_in_nI (by omega) (by omega)) dL_law_174 ?_
  refine lv_topi (fun v1 ev1 => ?_)
  have fv1 : x1 = v1 := hx1.trans ev1.symm
  subst fv1
  refine lv_aload_n F.1 F.2.1 dL_law_175 rfl (lv_at hl 1 rfl) ?_
  refine lv_iload_n F.1 F.2.1 dL_law_176 rfl (lv_at hl 0 rfl) ?_
  refine lv_iconst (v := 2) F.1 F.2.1 dL_law_177 (by decide) ?_
  refine lv_iadd F.1 F.2.1 dL_law_178 ?_
  refine va_sld F.1 F.2.1 hX hbl hbA hS (i := (nI (4 * k)) + 2) (by rw [show nI (4 * k) + 2 = nI (4 * k + 2) from nI_add _ 2]; exact vp_in_nI (by omega) (by omega)) dL_law_179 ?_
  refine lv_topi (fun v2 ev2 => ?_)
  have fv2 : x2 = v2 := hx2.trans ev2.symm
  subst fv2
  refine lv_aload_n F.1 F.2.1 dL_law_180 rfl (lv_at hl 1 rfl) ?_
  refine lv_iload_n F.1 F.2.1 dL_law_181 rfl (lv_at hl 0 rfl) ?_
  refine lv_iconst (v := 3) F.1 F.2.1 dL_law_182 (by decide) ?_
  refine lv_iadd F.1 F.2.1 dL_law_183 ?_
  refine va_sld F.1 F.2.1 hX hbl hbA hS (i := (nI (4 * k)) + 3) (by rw [show nI (4 * k) + 3 = nI (4 * k + 3) from nI_add _ 3]; exact vp_in_nI (by omega) (by omega)) dL_law_184 ?_
  refine lv_topi (fun v3 ev3 => ?_)
  have fv3 : x3 = v3 := hx3.trans ev3.symm
  subst fv3
  refine w_calli F hP hS (c_X7_part l D Y ad 176 hI _ 0 (by decide) f hs kn sl sv pd n hA x1 x2 x3 (60000 * (k : Int)) hok (by omega)) (cwVm 3 F.2.2.2.2.1 (fun _ h => h) mw_192 mw_189 mw_190 mw_191 mw_2 rfl rfl ydX7_part ⟨by decide, by decide⟩) (by decide) (clsA_at hA) rfl rfl hl.1 rfl (Nat.le_of_ble_eq_true rfl) dL_law_185 hcs (fun r7 C7 H locs hq7 hP hS => ?_)
  by_cases he : T_pe x1 x2 x3 f = 0
  · obtain ⟨hr7, hA7, hF7⟩ := hq7.1 he
    have hM7 := mdlA_same hM (fun j a b => hF7 j (by omega))
    refine lv_aload_n F.1 F.2.1 dL_law_188 rfl (lv_at hl 3 rfl) ?_
    refine lv_aload_n F.1 F.2.1 dL_law_189 rfl (lv_at hl 1 rfl) ?_
    refine lv_iload_n F.1 F.2.1 dL_law_190 rfl (lv_at hl 0 rfl) ?_
    refine lv_iconst (v := 1) F.1 F.2.1 dL_law_191 (by decide) ?_
    refine lv_iadd F.1 F.2.1 dL_law_192 ?_
    refine va_sld F.1 F.2.1 hX hbl hbA hS (i := (nI (4 * k)) + 1) (by rw [show nI (4 * k) + 1 = nI (4 * k + 1) from nI_add _ 1]; exact vp_in_nI (by omega) (by omega)) dL_law_193 ?_
    refine lv_topi (fun v4 ev4 => ?_)
    have fv4 : x1 = v4 := hx1.trans ev4.symm
    subst fv4
    refine lv_aload_n F.1 F.2.1 dL_law_194 rfl (lv_at hl 1 rfl) ?_
    refine lv_iload_n F.1 F.2.1 dL_law_195 rfl (lv_at hl 0 rfl) ?_
    refine lv_iconst (v := 2) F.1 F.2.1 dL_law_196 (by decide) ?_
    refine lv_iadd F.1 F.2.1 dL_law_197 ?_
    refine va_sld F.1 F.2.1 hX hbl hbA hS (i := (nI (4 * k)) + 2) (by rw [show nI (4 * k) + 2 = nI (4 * k + 2) from nI_add _ 2]; exact vp_in_nI (by omega) (by omega)) dL_law_198 ?_
    refine lv_topi (fun v5 ev5 => ?_)
    have fv5 : x2 = v5 := hx2.trans ev5.symm
    subst fv5
    refine lv_aload_n F.1 F.2.1 dL_law_199 rfl (lv_at hl 1 rfl) ?_
    refine lv_iload_n F.1 F.2.1 dL_law_200 rfl (lv_at hl 0 rfl) ?_
    refine lv_iconst (v := 3) F.1 F.2.1 dL_law_201 (by decide) ?_
    refine lv_iadd F.1 F.2.1 dL_law_202 ?_
    refine va_sld F.1 F.2.1 hX hbl hbA hS (i := (nI (4 * k)) + 3) (by rw [show nI (4 * k) + 3 = nI (4 * k + 3) from nI_add _ 3]; exact vp_in_nI (by omega) (by omega)) dL_law_203 ?_
    refine lv_topi (fun v6 ev6 => ?_)
    have fv6 : x3 = v6 := hx3.trans ev6.symm
    subst fv6
    obtain ⟨gr8, hg8⟩ := mdlA_at hM7
    refine w_calli F hP hS (cm_X8_part l D Y ad 176 hI _ 170 (by decide) f hs kn sl sv pd n hM7 x1 x2 x3 (60000 * (k : Int)) hok (by omega) (by omega)) (cwVm 3 F.2.2.2.2.1 (fun _ h => h) mw_215 mw_212 mw_213 mw_214 mw_5 rfl rfl ydX8_part ⟨by decide, by decide⟩) (by decide) hg8 rfl rfl hl.1 rfl (Nat.le_of_ble_eq_true rfl) dL_law_204 hcs (fun r8 C8 H locs hq8 hP hS => ?_)
    obtain ⟨hr8, hM8, hF8⟩ := hq8.1 he
    have hA8 := clsA_same hA7 (fun j a b => hF8 j (by omega))
    refine lv_icmp_eq (tgt := 682) F.1 F.2.1 dL_law_207 (by decide) (fun c7 => ?_) (fun c7 => False.elim (c7 (hr7.trans hr8.symm)))
    refine lv_iinc (v := (nI (4 * k)) + 4) (lv' := [(3, .int ((nI (4 * k)) + 4)), (0, .ref (b)), (1, .ref (ad 0)), (2, .ref (ad 170))]) F.1 F.2.1 dL_law_682 hl (k := 0) rfl rfl (by decide) rfl (fun ls hl => ?_)
    refine lv_goto (tgt := 18) F.1 F.2.1 dL_law_685 (by decide) ?_
    obtain ⟨kp, m4, ek, hk4, hm4, h4, hcl, hokp⟩ := pe_0 he hok.1
    exact kb _ _ _ _ hP hS (by rw [show nI (4 * (k + 1)) = nI (4 * k) + 4 from (nI_add (4 * k) 4).symm]; exact lv_sub hl [0, 1, 2, 3] rfl) ⟨(T_insert x1.toNatClampNeg x2 x3 f), (H_rec f hs kn), (K_rec kn), sl, sv, pd, n, hA8, hM8, (up1 (by rw [hcl]; exact okRow_ins hok hm4 h4 hokp)), (rec_ok (clsA_kn hA) (up1 hok) (fun i hi => up1 (hokh i hi))), (fun i hi => up1 (hoks i hi))⟩
  · obtain ⟨hr7, hw7⟩ := hq7.2 he; rw [hw7] at hP
    refine lv_aload_n F.1 F.2.1 dL_law_188 rfl (lv_at hl 3 rfl) ?_
    refine lv_aload_n F.1 F.2.1 dL_law_189 rfl (lv_at hl 1 rfl) ?_
    refine lv_iload_n F.1 F.2.1 dL_law_190 rfl (lv_at hl 0 rfl) ?_
    refine lv_iconst (v := 1) F.1 F.2.1 dL_law_191 (by decide) ?_
    refine lv_iadd F.1 F.2.1 dL_law_192 ?_
    refine va_sld F.1 F.2.1 hX hbl hbA hS (i := (nI (4 * k)) + 1) (by rw [show nI (4 * k) + 1 = nI (4 * k + 1) from nI_add _ 1]; exact vp_in_nI (by omega) (by omega)) dL_law_193 ?_
    refine lv_topi (fun v8 ev8 => ?_)
    have fv8 : x1 = v8 := hx1.trans ev8.symm
    subst fv8
    refine lv_aload_n F.1 F.2.1 dL_law_194 rfl (lv_at hl 1 rfl) ?_
    refine lv_iload_n F.1 F.2.1 dL_law_195 rfl (lv_at hl 0 rfl) ?_
    refine lv_iconst (v := 2) F.1 F.2.1 dL_law_196 (by decide) ?_
    refine lv_iadd F.1 F.2.1 dL_law_197 ?_
    refine va_sld F.1 F.2.1 hX hbl hbA hS (i := (nI (4 * k)) + 2) (by rw [show nI (4 * k) + 2 = nI (4 * k + 2) from nI_add _ 2]; exact vp_in_nI (by omega) (by omega)) dL_law_198 ?_
    refine lv_topi (fun v9 ev9 => ?_)
    have fv9 : x2 = v9 := hx2.trans ev9.symm
    subst fv9
    refine lv_aload_n F.1 F.2.1 dL_law_199 rfl (lv_at hl 1 rfl) ?_
    refine lv_iload_n F.1 F.2.1 dL_law_200 rfl (lv_at hl 0 rfl) ?_
    refine lv_iconst (v := 3) F.1 F.2.1 dL_law_201 (by decide) ?_
    refine lv_iadd F.1 F.2.1 dL_law_202 ?_
    refine va_sld F.1 F.2.1 hX hbl hbA hS (i := (nI (4 * k)) + 3) (by rw [show nI (4 * k) + 3 = nI (4 * k + 3) from nI_add _ 3]; exact vp_in_nI (by omega) (by omega)) dL_law_203 ?_
    refine lv_topi (fun v10 ev10 => ?_)
    have fv10 : x3 = v10 := hx3.trans ev10.symm
    subst fv10
    obtain ⟨gr8, hg8⟩ := mdlA_at hM
    refine w_calli F hP hS (cm_X8_part l D Y ad 176 hI _ 170 (by decide) f hs kn sl sv pd n hM x1 x2 x3 (60000 * (k : Int)) hok (by omega) (by omega)) (cwVm 3 F.2.2.2.2.1 (fun _ h => h) mw_215 mw_212 mw_213 mw_214 mw_5 rfl rfl ydX8_part ⟨by decide, by decide⟩) (by decide) hg8 rfl rfl hl.1 rfl (Nat.le_of_ble_eq_true rfl) dL_law_204 hcs (fun r8 C8 H locs hq8 hP hS => ?_)
    obtain ⟨hr8, hM8, hF8⟩ := hq8.2 he
    have hA8 := clsA_same hA (fun j a b => hF8 j (by omega))
    refine lv_icmp_eq (tgt := 682) F.1 F.2.1 dL_law_207 (by decide) (fun c11 => ?_) (fun c11 => False.elim (c11 (hr7.trans hr8.symm)))
    refine lv_iinc (v := (nI (4 * k)) + 4) (lv' := [(3, .int ((nI (4 * k)) + 4)), (0, .ref (b)), (1, .ref (ad 0)), (2, .ref (ad 170))]) F.1 F.2.1 dL_law_682 hl (k := 0) rfl rfl (by decide) rfl (fun ls hl => ?_)
    refine lv_goto (tgt := 18) F.1 F.2.1 dL_law_685 (by decide) ?_
    exact kb _ _ _ _ hP hS (by rw [show nI (4 * (k + 1)) = nI (4 * k) + 4 from (nI_add (4 * k) 4).symm]; exact lv_sub hl [0, 1, 2, 3] rfl) ⟨f, hs, kn, sl, sv, pd, n, hA8, hM8, up1 hok, (fun i hi => up1 (hokh i hi)), (fun i hi => up1 (hoks i hi))⟩
set_option maxRecDepth 20000 in
set_option maxHeartbeats 2000000 in
theorem law_case_2 {p : Program} {l : Launch} {e : Env} {s : State} {m : MethodId} {below : List Frame} {meth : Method} {c : Code} {D : va_G} {Y : Nat → ClassId} {ad : Nat → Nat} (hI : wI ad 176) {b L : Nat} {xs : Nat → Int32} (hL : L ≤ 2048) (F : wFix p s m c #[Value.ref b] cL_law RL 4 D Y ad 176) (hX : va_X b L xs s s.heap) (hbl : b < s.heap.size) (hbA : ¬ wA ad 176 b) {cells slots : Nat} (hcs : cells ≤ room_1.cells ∧ slots ≤ room_1.slots) {Q : State → Prop} {k : Nat} (hk : k ≤ 512) (hkL : 4 * k + 4 ≤ L) {H : Heap} {locs : List Loc} {C : Nat → va_E} (hP : wP D ad 176 C H) (hS : va_S (wA ad 176) s.heap H locs) {ls : Array Slot} (hl : lv_has ls 4 [(3, .int (nI (4 * k))), (0, .ref b), (1, .ref (ad 0)), (2, .ref (ad 170))]) {f : Nat → Int32} {hs : Nat → Nat → Int32} {kn : Nat} {sl : Nat → Nat → Int32} {sv pd : Nat → Int32} {n : Nat} (hA : clsA Y ad C 0 f hs kn sl sv pd n) (hM : mdlA Y ad C 170 f hs kn sl sv pd n) (hok : okRow (60000 * k) f) (hokh : ∀ i, i < kn → okRow (60000 * k) (hs i)) (hoks : ∀ i, i < 2 → okRow (60000 * k) (sl i)) (kb : ∀ (H : Heap) (locs : List Loc) (C : Nat → va_E) (ls : Array Slot), wP D ad 176 C H → va_S (wA ad 176) s.heap H locs → lv_has ls 4 [(3, .int (nI (4 * (k + 1)))), (0, .ref b), (1, .ref (ad 0)), (2, .ref (ad 170))] → LINV Y ad C (k + 1) → W p l e room_1 s m #[Value.ref b] below meth c H locs cells slots Q (F0 m 18 ls [])) : W p l e room_1 s m #[Value.ref b] below meth c H locs cells slots Q (F0 m 212 ls []) := by
  obtain ⟨x1, hx1⟩ : ∃ z, z = xs (nI (4 * k) + 1).toNatClampNeg := ⟨_, rfl⟩
  obtain ⟨x2, hx2⟩ : ∃ z, z = xs (nI (4 * k) + 2).toNatClampNeg := ⟨_, rfl⟩
  obtain ⟨x3, hx3⟩ : ∃ z, z = xs (nI (4 * k) + 3).toNatClampNeg := ⟨_, rfl⟩
  refine lv_aload_n F.1 F.2.1 dL_law_212 rfl (lv_at hl 2 rfl) ?_
  refine lv_aload_n F.1 F.2.1 dL_law_213 rfl (lv_at hl 1 rfl) ?_
  refine lv_iload_n F.1 F.2.1 dL_law_214 rfl (lv_at hl 0 rfl) ?_
  refine lv_iconst (v := 1) F.1 F.2.1 dL_law_215 (by decide) ?_
  refine lv_iadd F.1 F.2.1 dL_law_216 ?_
  refine va_sld F.1 F.2.1 hX hbl hbA hS (i := (nI (4 * k)) + 1) (by rw [show nI (4 * k) + 1 = nI (4 * k + 1) from nI_add _ 1]; exact vp_in_nI (by omega) (by omega)) dL_law_217 ?_
  refine lv_topi (fun v1 ev1 => ?_)
  have fv1 : x1 = v1 := hx1.trans ev1.symm
  subst fv1
  refine w_calli F hP hS (c_X7_takeAway l D Y ad 176 hI _ 0 (by decide) f hs kn sl sv pd n hA x1 (60000 * (k : Int)) hok (by omega)) (cwVm 1 F.2.2.2.2.1 (fun _ h => h) mw_230 mw_227 mw_228 mw_229 mw_2 rfl rfl ydX7_takeAway ⟨by decide, by decide⟩) (by decide) (clsA_at hA) rfl rfl hl.1 rfl (Nat.le_of_ble_eq_true rfl) dL_law_218 hcs (fun r7 C7 H locs hq7 hP hS => ?_)
  by_cases he : (if 0 ≤ x1 ∧ x1 < f 4 ∧ x1 < 20 then (0 : Int32) else -1) = 0
  · obtain ⟨hr7, hA7, hF7⟩ := hq7.1 he
    have hM7 := mdlA_same hM (fun j a b => hF7 j (by omega))
    refine lv_aload_n F.1 F.2.1 dL_law_221 rfl (lv_at hl 3 rfl) ?_
    refine lv_aload_n F.1 F.2.1 dL_law_222 rfl (lv_at hl 1 rfl) ?_
    refine lv_iload_n F.1 F.2.1 dL_law_223 rfl (lv_at hl 0 rfl) ?_
    refine lv_iconst (v := 1) F.1 F.2.1 dL_law_224 (by decide) ?_
    refine lv_iadd F.1 F.2.1 dL_law_225 ?_
    refine va_sld F.1 F.2.1 hX hbl hbA hS (i := (nI (4 * k)) + 1) (by rw [show nI (4 * k) + 1 = nI (4 * k + 1) from nI_add _ 1]; exact vp_in_nI (by omega) (by omega)) dL_law_226 ?_
    refine lv_topi (fun v2 ev2 => ?_)
    have fv2 : x1 = v2 := hx1.trans ev2.symm
    subst fv2
    obtain ⟨gr8, hg8⟩ := mdlA_at hM7
    refine w_calli F hP hS (cm_X8_takeAway l D Y ad 176 hI _ 170 (by decide) f hs kn sl sv pd n hM7 x1 (60000 * (k : Int)) hok (by omega) (by omega)) (cwVm 1 F.2.2.2.2.1 (fun _ h => h) mw_247 mw_244 mw_245 mw_246 mw_5 rfl rfl ydX8_takeAway ⟨by decide, by decide⟩) (by decide) hg8 rfl rfl hl.1 rfl (Nat.le_of_ble_eq_true rfl) dL_law_227 hcs (fun r8 C8 H locs hq8 hP hS => ?_)
    obtain ⟨hr8, hM8, hF8⟩ := hq8.1 he
    have hA8 := clsA_same hA7 (fun j a b => hF8 j (by omega))
    refine lv_icmp_eq (tgt := 682) F.1 F.2.1 dL_law_230 (by decide) (fun c3 => ?_) (fun c3 => False.elim (c3 (hr7.trans hr8.symm)))
    refine lv_iinc (v := (nI (4 * k)) + 4) (lv' := [(3, .int ((nI (4 * k)) + 4)), (0, .ref (b)), (1, .ref (ad 0)), (2, .ref (ad 170))]) F.1 F.2.1 dL_law_682 hl (k := 0) rfl rfl (by decide) rfl (fun ls hl => ?_)
    refine lv_goto (tgt := 18) F.1 F.2.1 dL_law_685 (by decide) ?_
    obtain ⟨kp, m4, ek, hkm, hm20, h4, hcl⟩ := has_0 (e_c he (by decide)) hok.1
    exact kb _ _ _ _ hP hS (by rw [show nI (4 * (k + 1)) = nI (4 * k) + 4 from (nI_add (4 * k) 4).symm]; exact lv_sub hl [0, 1, 2, 3] rfl) ⟨(T_remove x1.toNatClampNeg f), (H_rec f hs kn), (K_rec kn), sl, sv, pd, n, hA8, hM8, (up1 (by rw [hcl]; exact okRow_rem hok hkm hm20 h4)), (rec_ok (clsA_kn hA) (up1 hok) (fun i hi => up1 (hokh i hi))), (fun i hi => up1 (hoks i hi))⟩
  · obtain ⟨hr7, hw7⟩ := hq7.2 he; rw [hw7] at hP
    refine lv_aload_n F.1 F.2.1 dL_law_221 rfl (lv_at hl 3 rfl) ?_
    refine lv_aload_n F.1 F.2.1 dL_law_222 rfl (lv_at hl 1 rfl) ?_
    refine lv_iload_n F.1 F.2.1 dL_law_223 rfl (lv_at hl 0 rfl) ?_
    refine lv_iconst (v := 1) F.1 F.2.1 dL_law_224 (by decide) ?_
    refine lv_iadd F.1 F.2.1 dL_law_225 ?_
    refine va_sld F.1 F.2.1 hX hbl hbA hS (i := (nI (4 * k)) + 1) (by rw [show nI (4 * k) + 1 = nI (4 * k + 1) from nI_add _ 1]; exact vp_in_nI (by omega) (by omega)) dL_law_226 ?_
    refine lv_topi (fun v4 ev4 => ?_)
    have fv4 : x1 = v4 := hx1.trans ev4.symm
    subst fv4
    obtain ⟨gr8, hg8⟩ := mdlA_at hM
    refine w_calli F hP hS (cm_X8_takeAway l D Y ad 176 hI _ 170 (by decide) f hs kn sl sv pd n hM x1 (60000 * (k : Int)) hok (by omega) (by omega)) (cwVm 1 F.2.2.2.2.1 (fun _ h => h) mw_247 mw_244 mw_245 mw_246 mw_5 rfl rfl ydX8_takeAway ⟨by decide, by decide⟩) (by decide) hg8 rfl rfl hl.1 rfl (Nat.le_of_ble_eq_true rfl) dL_law_227 hcs (fun r8 C8 H locs hq8 hP hS => ?_)
    obtain ⟨hr8, hM8, hF8⟩ := hq8.2 he
    have hA8 := clsA_same hA (fun j a b => hF8 j (by omega))
    refine lv_icmp_eq (tgt := 682) F.1 F.2.1 dL_law_230 (by decide) (fun c5 => ?_) (fun c5 => False.elim (c5 (hr7.trans hr8.symm)))
    refine lv_iinc (v := (nI (4 * k)) + 4) (lv' := [(3, .int ((nI (4 * k)) + 4)), (0, .ref (b)), (1, .ref (ad 0)), (2, .ref (ad 170))]) F.1 F.2.1 dL_law_682 hl (k := 0) rfl rfl (by decide) rfl (fun ls hl => ?_)
    refine lv_goto (tgt := 18) F.1 F.2.1 dL_law_685 (by decide) ?_
    exact kb _ _ _ _ hP hS (by rw [show nI (4 * (k + 1)) = nI (4 * k) + 4 from (nI_add (4 * k) 4).symm]; exact lv_sub hl [0, 1, 2, 3] rfl) ⟨f, hs, kn, sl, sv, pd, n, hA8, hM8, up1 hok, (fun i hi => up1 (hokh i hi)), (fun i hi => up1 (hoks i hi))⟩
set_option maxRecDepth 20000 in
set_option maxHeartbeats 2000000 in
theorem law_case_3 {p : Program} {l : Launch} {e : Env} {s : State} {m : MethodId} {below : List Frame} {meth : Method} {c : Code} {D : va_G} {Y : Nat → ClassId} {ad : Nat → Nat} (hI : wI ad 176) {b L : Nat} {xs : Nat → Int32} (hL : L ≤ 2048) (F : wFix p s m c #[Value.ref b] cL_law RL 4 D Y ad 176) (hX : va_X b L xs s s.heap) (hbl : b < s.heap.size) (hbA : ¬ wA ad 176 b) {cells slots : Nat} (hcs : cells ≤ room_1.cells ∧ slots ≤ room_1.slots) {Q : State → Prop} {k : Nat} (hk : k ≤ 512) (hkL : 4 * k + 4 ≤ L) {H : Heap} {locs : List Loc} {C : Nat → va_E} (hP : wP D ad 176 C H) (hS : va_S (wA ad 176) s.heap H locs) {ls : Array Slot} (hl : lv_has ls 4 [(3, .int (nI (4 * k))), (0, .ref b), (1, .ref (ad 0)), (2, .ref (ad 170))]) {f : Nat → Int32} {hs : Nat → Nat → Int32} {kn : Nat} {sl : Nat → Nat → Int32} {sv pd : Nat → Int32} {n : Nat} (hA : clsA Y ad C 0 f hs kn sl sv pd n) (hM : mdlA Y ad C 170 f hs kn sl sv pd n) (hok : okRow (60000 * k) f) (hokh : ∀ i, i < kn → okRow (60000 * k) (hs i)) (hoks : ∀ i, i < 2 → okRow (60000 * k) (sl i)) (kb : ∀ (H : Heap) (locs : List Loc) (C : Nat → va_E) (ls : Array Slot), wP D ad 176 C H → va_S (wA ad 176) s.heap H locs → lv_has ls 4 [(3, .int (nI (4 * (k + 1)))), (0, .ref b), (1, .ref (ad 0)), (2, .ref (ad 170))] → LINV Y ad C (k + 1) → W p l e room_1 s m #[Value.ref b] below meth c H locs cells slots Q (F0 m 18 ls [])) : W p l e room_1 s m #[Value.ref b] below meth c H locs cells slots Q (F0 m 235 ls []) := by
  obtain ⟨x1, hx1⟩ : ∃ z, z = xs (nI (4 * k) + 1).toNatClampNeg := ⟨_, rfl⟩
  obtain ⟨x2, hx2⟩ : ∃ z, z = xs (nI (4 * k) + 2).toNatClampNeg := ⟨_, rfl⟩
  obtain ⟨x3, hx3⟩ : ∃ z, z = xs (nI (4 * k) + 3).toNatClampNeg := ⟨_, rfl⟩
  refine lv_aload_n F.1 F.2.1 dL_law_235 rfl (lv_at hl 2 rfl) ?_
  refine lv_aload_n F.1 F.2.1 dL_law_236 rfl (lv_at hl 1 rfl) ?_
  refine lv_iload_n F.1 F.2.1 dL_law_237 rfl (lv_at hl 0 rfl) ?_
  refine lv_iconst (v := 1) F.1 F.2.1 dL_law_238 (by decide) ?_
  refine lv_iadd F.1 F.2.1 dL_law_239 ?_
  refine va_sld F.1 F.2.1 hX hbl hbA hS (i := (nI (4 * k)) + 1) (by rw [show nI (4 * k) + 1 = nI (4 * k + 1) from nI_add _ 1]; exact vp_in_nI (by omega) (by omega)) dL_law_240 ?_
  refine lv_topi (fun v1 ev1 => ?_)
  have fv1 : x1 = v1 := hx1.trans ev1.symm
  subst fv1
  refine w_calli F hP hS (c_X7_hoop l D Y ad 176 hI _ 0 (by decide) f hs kn sl sv pd n hA x1 (60000 * (k : Int)) hok (by omega)) (cwVm 1 F.2.2.2.2.1 (fun _ h => h) mw_255 mw_252 mw_253 mw_254 mw_2 rfl rfl ydX7_hoop ⟨by decide, by decide⟩) (by decide) (clsA_at hA) rfl rfl hl.1 rfl (Nat.le_of_ble_eq_true rfl) dL_law_241 hcs (fun r7 C7 H locs hq7 hP hS => ?_)
  by_cases he : (if 1 ≤ x1 ∧ x1 ≤ 60 then (0 : Int32) else -2) = 0
  · obtain ⟨hr7, hA7, hF7⟩ := hq7.1 he
    have hM7 := mdlA_same hM (fun j a b => hF7 j (by omega))
    refine lv_aload_n F.1 F.2.1 dL_law_244 rfl (lv_at hl 3 rfl) ?_
    refine lv_aload_n F.1 F.2.1 dL_law_245 rfl (lv_at hl 1 rfl) ?_
    refine lv_iload_n F.1 F.2.1 dL_law_246 rfl (lv_at hl 0 rfl) ?_
    refine lv_iconst (v := 1) F.1 F.2.1 dL_law_247 (by decide) ?_
    refine lv_iadd F.1 F.2.1 dL_law_248 ?_
    refine va_sld F.1 F.2.1 hX hbl hbA hS (i := (nI (4 * k)) + 1) (by rw [show nI (4 * k) + 1 = nI (4 * k + 1) from nI_add _ 1]; exact vp_in_nI (by omega) (by omega)) dL_law_249 ?_
    refine lv_topi (fun v2 ev2 => ?_)
    have fv2 : x1 = v2 := hx1.trans ev2.symm
    subst fv2
    obtain ⟨gr8, hg8⟩ := mdlA_at hM7
    refine w_calli F hP hS (cm_X8_hoop l D Y ad 176 hI _ 170 (by decide) f hs kn sl sv pd n hM7 x1) (cwVm 1 F.2.2.2.2.1 (fun _ h => h) mw_270 mw_267 mw_268 mw_269 mw_5 rfl rfl ydX8_hoop ⟨by decide, by decide⟩) (by decide) hg8 rfl rfl hl.1 rfl (Nat.le_of_ble_eq_true rfl) dL_law_250 hcs (fun r8 C8 H locs hq8 hP hS => ?_)
    obtain ⟨hr8, hM8, hF8⟩ := hq8.1 he
    have hA8 := clsA_same hA7 (fun j a b => hF8 j (by omega))
    refine lv_icmp_eq (tgt := 682) F.1 F.2.1 dL_law_253 (by decide) (fun c3 => ?_) (fun c3 => False.elim (c3 (hr7.trans hr8.symm)))
    refine lv_iinc (v := (nI (4 * k)) + 4) (lv' := [(3, .int ((nI (4 * k)) + 4)), (0, .ref (b)), (1, .ref (ad 0)), (2, .ref (ad 170))]) F.1 F.2.1 dL_law_682 hl (k := 0) rfl rfl (by decide) rfl (fun ls hl => ?_)
    refine lv_goto (tgt := 18) F.1 F.2.1 dL_law_685 (by decide) ?_
    exact kb _ _ _ _ hP hS (by rw [show nI (4 * (k + 1)) = nI (4 * k) + 4 from (nI_add (4 * k) 4).symm]; exact lv_sub hl [0, 1, 2, 3] rfl) ⟨(T_run x1 f), (H_rec f hs kn), (K_rec kn), sl, sv, pd, n, hA8, hM8, (up1 (okRow_run x1 (by omega) hok)), (rec_ok (clsA_kn hA) (up1 hok) (fun i hi => up1 (hokh i hi))), (fun i hi => up1 (hoks i hi))⟩
  · obtain ⟨hr7, hw7⟩ := hq7.2 he; rw [hw7] at hP
    refine lv_aload_n F.1 F.2.1 dL_law_244 rfl (lv_at hl 3 rfl) ?_
    refine lv_aload_n F.1 F.2.1 dL_law_245 rfl (lv_at hl 1 rfl) ?_
    refine lv_iload_n F.1 F.2.1 dL_law_246 rfl (lv_at hl 0 rfl) ?_
    refine lv_iconst (v := 1) F.1 F.2.1 dL_law_247 (by decide) ?_
    refine lv_iadd F.1 F.2.1 dL_law_248 ?_
    refine va_sld F.1 F.2.1 hX hbl hbA hS (i := (nI (4 * k)) + 1) (by rw [show nI (4 * k) + 1 = nI (4 * k + 1) from nI_add _ 1]; exact vp_in_nI (by omega) (by omega)) dL_law_249 ?_
    refine lv_topi (fun v4 ev4 => ?_)
    have fv4 : x1 = v4 := hx1.trans ev4.symm
    subst fv4
    obtain ⟨gr8, hg8⟩ := mdlA_at hM
    refine w_calli F hP hS (cm_X8_hoop l D Y ad 176 hI _ 170 (by decide) f hs kn sl sv pd n hM x1) (cwVm 1 F.2.2.2.2.1 (fun _ h => h) mw_270 mw_267 mw_268 mw_269 mw_5 rfl rfl ydX8_hoop ⟨by decide, by decide⟩) (by decide) hg8 rfl rfl hl.1 rfl (Nat.le_of_ble_eq_true rfl) dL_law_250 hcs (fun r8 C8 H locs hq8 hP hS => ?_)
    obtain ⟨hr8, hM8, hF8⟩ := hq8.2 he
    have hA8 := clsA_same hA (fun j a b => hF8 j (by omega))
    refine lv_icmp_eq (tgt := 682) F.1 F.2.1 dL_law_253 (by decide) (fun c5 => ?_) (fun c5 => False.elim (c5 (hr7.trans hr8.symm)))
    refine lv_iinc (v := (nI (4 * k)) + 4) (lv' := [(3, .int ((nI (4 * k)) + 4)), (0, .ref (b)), (1, .ref (ad 0)), (2, .ref (ad 170))]) F.1 F.2.1 dL_law_682 hl (k := 0) rfl rfl (by decide) rfl (fun ls hl => ?_)
    refine lv_goto (tgt := 18) F.1 F.2.1 dL_law_685 (by decide) ?_
    exact kb _ _ _ _ hP hS (by rw [show nI (4 * (k + 1)) = nI (4 * k) + 4 from (nI_add (4 * k) 4).symm]; exact lv_sub hl [0, 1, 2, 3] rfl) ⟨f, hs, kn, sl, sv, pd, n, hA8, hM8, up1 hok, (fun i hi => up1 (hokh i hi)), (fun i hi => up1 (hoks i hi))⟩
set_option maxRecDepth 20000 in
set_option maxHeartbeats 2000000 in
theorem law_case_4 {p : Program} {l : Launch} {e : Env} {s : State} {m : MethodId} {below : List Frame} {meth : Method} {c : Code} {D : va_G} {Y : Nat → ClassId} {ad : Nat → Nat} (hI : wI ad 176) {b L : Nat} {xs : Nat → Int32} (hL : L ≤ 2048) (F : wFix p s m c #[Value.ref b] cL_law RL 4 D Y ad 176) (hX : va_X b L xs s s.heap) (hbl : b < s.heap.size) (hbA : ¬ wA ad 176 b) {cells slots : Nat} (hcs : cells ≤ room_1.cells ∧ slots ≤ room_1.slots) {Q : State → Prop} {k : Nat} (hk : k ≤ 512) (hkL : 4 * k + 4 ≤ L) {H : Heap} {locs : List Loc} {C : Nat → va_E} (hP : wP D ad 176 C H) (hS : va_S (wA ad 176) s.heap H locs) {ls : Array Slot} (hl : lv_has ls 4 [(3, .int (nI (4 * k))), (0, .ref b), (1, .ref (ad 0)), (2, .ref (ad 170))]) {f : Nat → Int32} {hs : Nat → Nat → Int32} {kn : Nat} {sl : Nat → Nat → Int32} {sv pd : Nat → Int32} {n : Nat} (hA : clsA Y ad C 0 f hs kn sl sv pd n) (hM : mdlA Y ad C 170 f hs kn sl sv pd n) (hok : okRow (60000 * k) f) (hokh : ∀ i, i < kn → okRow (60000 * k) (hs i)) (hoks : ∀ i, i < 2 → okRow (60000 * k) (sl i)) (kb : ∀ (H : Heap) (locs : List Loc) (C : Nat → va_E) (ls : Array Slot), wP D ad 176 C H → va_S (wA ad 176) s.heap H locs → lv_has ls 4 [(3, .int (nI (4 * (k + 1)))), (0, .ref b), (1, .ref (ad 0)), (2, .ref (ad 170))] → LINV Y ad C (k + 1) → W p l e room_1 s m #[Value.ref b] below meth c H locs cells slots Q (F0 m 18 ls [])) : W p l e room_1 s m #[Value.ref b] below meth c H locs cells slots Q (F0 m 258 ls []) := by
  obtain ⟨x1, hx1⟩ : ∃ z, z = xs (nI (4 * k) + 1).toNatClampNeg := ⟨_, rfl⟩
  obtain ⟨x2, hx2⟩ : ∃ z, z = xs (nI (4 * k) + 2).toNatClampNeg := ⟨_, rfl⟩
  obtain ⟨x3, hx3⟩ : ∃ z, z = xs (nI (4 * k) + 3).toNatClampNeg := ⟨_, rfl⟩
  refine lv_aload_n F.1 F.2.1 dL_law_258 rfl (lv_at hl 2 rfl) ?_
  refine lv_aload_n F.1 F.2.1 dL_law_259 rfl (lv_at hl 1 rfl) ?_
  refine lv_iload_n F.1 F.2.1 dL_law_260 rfl (lv_at hl 0 rfl) ?_
  refine lv_iconst (v := 1) F.1 F.2.1 dL_law_261 (by decide) ?_
  refine lv_iadd F.1 F.2.1 dL_law_262 ?_
  refine va_sld F.1 F.2.1 hX hbl hbA hS (i := (nI (4 * k)) + 1) (by rw [show nI (4 * k) + 1 = nI (4 * k + 1) from nI_add _ 1]; exact vp_in_nI (by omega) (by omega)) dL_law_263 ?_
  refine lv_topi (fun v1 ev1 => ?_)
  have fv1 : x1 = v1 := hx1.trans ev1.symm
  subst fv1
  refine w_calli F hP hS (c_X7_roll l D Y ad 176 hI _ 0 (by decide) f hs kn sl sv pd n hA x1 (60000 * (k : Int)) hok (by omega)) (cwVm 1 F.2.2.2.2.1 (fun _ h => h) mw_278 mw_275 mw_276 mw_277 mw_2 rfl rfl ydX7_roll ⟨by decide, by decide⟩) (by decide) (clsA_at hA) rfl rfl hl.1 rfl (Nat.le_of_ble_eq_true rfl) dL_law_264 hcs (fun r7 C7 H locs hq7 hP hS => ?_)
  by_cases he : T_re x1 f = 0
  · obtain ⟨hr7, hA7, hF7⟩ := hq7.1 he
    have hM7 := mdlA_same hM (fun j a b => hF7 j (by omega))
    refine lv_aload_n F.1 F.2.1 dL_law_267 rfl (lv_at hl 3 rfl) ?_
    refine lv_aload_n F.1 F.2.1 dL_law_268 rfl (lv_at hl 1 rfl) ?_
    refine lv_iload_n F.1 F.2.1 dL_law_269 rfl (lv_at hl 0 rfl) ?_
    refine lv_iconst (v := 1) F.1 F.2.1 dL_law_270 (by decide) ?_
    refine lv_iadd F.1 F.2.1 dL_law_271 ?_
    refine va_sld F.1 F.2.1 hX hbl hbA hS (i := (nI (4 * k)) + 1) (by rw [show nI (4 * k) + 1 = nI (4 * k + 1) from nI_add _ 1]; exact vp_in_nI (by omega) (by omega)) dL_law_272 ?_
    refine lv_topi (fun v2 ev2 => ?_)
    have fv2 : x1 = v2 := hx1.trans ev2.symm
    subst fv2
    obtain ⟨gr8, hg8⟩ := mdlA_at hM7
    refine w_calli F hP hS (cm_X8_roll l D Y ad 176 hI _ 170 (by decide) f hs kn sl sv pd n hM7 x1 (60000 * (k : Int)) hok (by omega) (by omega)) (cwVm 1 F.2.2.2.2.1 (fun _ h => h) mw_353 mw_350 mw_351 mw_352 mw_5 rfl rfl ydX8_roll ⟨by decide, by decide⟩) (by decide) hg8 rfl rfl hl.1 rfl (Nat.le_of_ble_eq_true rfl) dL_law_273 hcs (fun r8 C8 H locs hq8 hP hS => ?_)
    obtain ⟨hr8, hM8, hF8⟩ := hq8.1 he
    have hA8 := clsA_same hA7 (fun j a b => hF8 j (by omega))
    refine lv_icmp_eq (tgt := 682) F.1 F.2.1 dL_law_276 (by decide) (fun c3 => ?_) (fun c3 => False.elim (c3 (hr7.trans hr8.symm)))
    refine lv_iinc (v := (nI (4 * k)) + 4) (lv' := [(3, .int ((nI (4 * k)) + 4)), (0, .ref (b)), (1, .ref (ad 0)), (2, .ref (ad 170))]) F.1 F.2.1 dL_law_682 hl (k := 0) rfl rfl (by decide) rfl (fun ls hl => ?_)
    refine lv_goto (tgt := 18) F.1 F.2.1 dL_law_685 (by decide) ?_
    obtain ⟨kp, hk1, hk20, ek, hcl, h5, h11⟩ := re_0 he
    exact kb _ _ _ _ hP hS (by rw [show nI (4 * (k + 1)) = nI (4 * k) + 4 from (nI_add (4 * k) 4).symm]; exact lv_sub hl [0, 1, 2, 3] rfl) ⟨(T_rolled x1.toNatClampNeg f 0), (H_rec f hs kn), (K_rec kn), sl, sv, pd, n, hA8, hM8, (by rw [hcl]; exact okRow_mono (by omega) (okRow_roll kp (by omega) hok h5 h11)), (rec_ok (clsA_kn hA) (up1 hok) (fun i hi => up1 (hokh i hi))), (fun i hi => up1 (hoks i hi))⟩
  · obtain ⟨hr7, hw7⟩ := hq7.2 he; rw [hw7] at hP
    refine lv_aload_n F.1 F.2.1 dL_law_267 rfl (lv_at hl 3 rfl) ?_
    refine lv_aload_n F.1 F.2.1 dL_law_268 rfl (lv_at hl 1 rfl) ?_
    refine lv_iload_n F.1 F.2.1 dL_law_269 rfl (lv_at hl 0 rfl) ?_
    refine lv_iconst (v := 1) F.1 F.2.1 dL_law_270 (by decide) ?_
    refine lv_iadd F.1 F.2.1 dL_law_271 ?_
    refine va_sld F.1 F.2.1 hX hbl hbA hS (i := (nI (4 * k)) + 1) (by rw [show nI (4 * k) + 1 = nI (4 * k + 1) from nI_add _ 1]; exact vp_in_nI (by omega) (by omega)) dL_law_272 ?_
    refine lv_topi (fun v4 ev4 => ?_)
    have fv4 : x1 = v4 := hx1.trans ev4.symm
    subst fv4
    obtain ⟨gr8, hg8⟩ := mdlA_at hM
    refine w_calli F hP hS (cm_X8_roll l D Y ad 176 hI _ 170 (by decide) f hs kn sl sv pd n hM x1 (60000 * (k : Int)) hok (by omega) (by omega)) (cwVm 1 F.2.2.2.2.1 (fun _ h => h) mw_353 mw_350 mw_351 mw_352 mw_5 rfl rfl ydX8_roll ⟨by decide, by decide⟩) (by decide) hg8 rfl rfl hl.1 rfl (Nat.le_of_ble_eq_true rfl) dL_law_273 hcs (fun r8 C8 H locs hq8 hP hS => ?_)
    obtain ⟨hr8, hM8, hF8⟩ := hq8.2 he
    have hA8 := clsA_same hA (fun j a b => hF8 j (by omega))
    refine lv_icmp_eq (tgt := 682) F.1 F.2.1 dL_law_276 (by decide) (fun c5 => ?_) (fun c5 => False.elim (c5 (hr7.trans hr8.symm)))
    refine lv_iinc (v := (nI (4 * k)) + 4) (lv' := [(3, .int ((nI (4 * k)) + 4)), (0, .ref (b)), (1, .ref (ad 0)), (2, .ref (ad 170))]) F.1 F.2.1 dL_law_682 hl (k := 0) rfl rfl (by decide) rfl (fun ls hl => ?_)
    refine lv_goto (tgt := 18) F.1 F.2.1 dL_law_685 (by decide) ?_
    exact kb _ _ _ _ hP hS (by rw [show nI (4 * (k + 1)) = nI (4 * k) + 4 from (nI_add (4 * k) 4).symm]; exact lv_sub hl [0, 1, 2, 3] rfl) ⟨f, hs, kn, sl, sv, pd, n, hA8, hM8, up1 hok, (fun i hi => up1 (hokh i hi)), (fun i hi => up1 (hoks i hi))⟩
set_option maxRecDepth 20000 in
set_option maxHeartbeats 2000000 in
theorem law_case_5 {p : Program} {l : Launch} {e : Env} {s : State} {m : MethodId} {below : List Frame} {meth : Method} {c : Code} {D : va_G} {Y : Nat → ClassId} {ad : Nat → Nat} (hI : wI ad 176) {b L : Nat} {xs : Nat → Int32} (hL : L ≤ 2048) (F : wFix p s m c #[Value.ref b] cL_law RL 4 D Y ad 176) (hX : va_X b L xs s s.heap) (hbl : b < s.heap.size) (hbA : ¬ wA ad 176 b) {cells slots : Nat} (hcs : cells ≤ room_1.cells ∧ slots ≤ room_1.slots) {Q : State → Prop} {k : Nat} (hk : k ≤ 512) (hkL : 4 * k + 4 ≤ L) {H : Heap} {locs : List Loc} {C : Nat → va_E} (hP : wP D ad 176 C H) (hS : va_S (wA ad 176) s.heap H locs) {ls : Array Slot} (hl : lv_has ls 4 [(3, .int (nI (4 * k))), (0, .ref b), (1, .ref (ad 0)), (2, .ref (ad 170))]) {f : Nat → Int32} {hs : Nat → Nat → Int32} {kn : Nat} {sl : Nat → Nat → Int32} {sv pd : Nat → Int32} {n : Nat} (hA : clsA Y ad C 0 f hs kn sl sv pd n) (hM : mdlA Y ad C 170 f hs kn sl sv pd n) (hok : okRow (60000 * k) f) (hokh : ∀ i, i < kn → okRow (60000 * k) (hs i)) (hoks : ∀ i, i < 2 → okRow (60000 * k) (sl i)) (kb : ∀ (H : Heap) (locs : List Loc) (C : Nat → va_E) (ls : Array Slot), wP D ad 176 C H → va_S (wA ad 176) s.heap H locs → lv_has ls 4 [(3, .int (nI (4 * (k + 1)))), (0, .ref b), (1, .ref (ad 0)), (2, .ref (ad 170))] → LINV Y ad C (k + 1) → W p l e room_1 s m #[Value.ref b] below meth c H locs cells slots Q (F0 m 18 ls [])) : W p l e room_1 s m #[Value.ref b] below meth c H locs cells slots Q (F0 m 281 ls []) := by
  obtain ⟨x1, hx1⟩ : ∃ z, z = xs (nI (4 * k) + 1).toNatClampNeg := ⟨_, rfl⟩
  obtain ⟨x2, hx2⟩ : ∃ z, z = xs (nI (4 * k) + 2).toNatClampNeg := ⟨_, rfl⟩
  obtain ⟨x3, hx3⟩ : ∃ z, z = xs (nI (4 * k) + 3).toNatClampNeg := ⟨_, rfl⟩
  refine lv_aload_n F.1 F.2.1 dL_law_281 rfl (lv_at hl 2 rfl) ?_
  refine lv_aload_n F.1 F.2.1 dL_law_282 rfl (lv_at hl 1 rfl) ?_
  refine lv_iload_n F.1 F.2.1 dL_law_283 rfl (lv_at hl 0 rfl) ?_
  refine lv_iconst (v := 1) F.1 F.2.1 dL_law_284 (by decide) ?_
  refine lv_iadd F.1 F.2.1 dL_law_285 ?_
  refine va_sld F.1 F.2.1 hX hbl hbA hS (i := (nI (4 * k)) + 1) (by rw [show nI (4 * k) + 1 = nI (4 * k + 1) from nI_add _ 1]; exact vp_in_nI (by omega) (by omega)) dL_law_286 ?_
  refine lv_topi (fun v1 ev1 => ?_)
  have fv1 : x1 = v1 := hx1.trans ev1.symm
  subst fv1
  refine w_calli F hP hS (c_X7_tap l D Y ad 176 hI _ 0 (by decide) f hs kn sl sv pd n hA x1 (60000 * (k : Int)) hok (by omega)) (cwVm 1 F.2.2.2.2.1 (fun _ h => h) mw_396 mw_393 mw_394 mw_395 mw_2 rfl rfl ydX7_tap ⟨by decide, by decide⟩) (by decide) (clsA_at hA) rfl rfl hl.1 rfl (Nat.le_of_ble_eq_true rfl) dL_law_287 hcs (fun r7 C7 H locs hq7 hP hS => ?_)
  by_cases he : T_te x1 f = 0
  · obtain ⟨hr7, hA7, hF7⟩ := hq7.1 he
    have hM7 := mdlA_same hM (fun j a b => hF7 j (by omega))
    refine lv_aload_n F.1 F.2.1 dL_law_290 rfl (lv_at hl 3 rfl) ?_
    refine lv_aload_n F.1 F.2.1 dL_law_291 rfl (lv_at hl 1 rfl) ?_
    refine lv_iload_n F.1 F.2.1 dL_law_292 rfl (lv_at hl 0 rfl) ?_
    refine lv_iconst (v := 1) F.1 F.2.1 dL_law_293 (by decide) ?_
    refine lv_iadd F.1 F.2.1 dL_law_294 ?_
    refine va_sld F.1 F.2.1 hX hbl hbA hS (i := (nI (4 * k)) + 1) (by rw [show nI (4 * k) + 1 = nI (4 * k + 1) from nI_add _ 1]; exact vp_in_nI (by omega) (by omega)) dL_law_295 ?_
    refine lv_topi (fun v2 ev2 => ?_)
    have fv2 : x1 = v2 := hx1.trans ev2.symm
    subst fv2
    obtain ⟨gr8, hg8⟩ := mdlA_at hM7
    refine w_calli F hP hS (cm_X8_tap l D Y ad 176 hI _ 170 (by decide) f hs kn sl sv pd n hM7 x1) (cwVm 1 F.2.2.2.2.1 (fun _ h => h) mw_413 mw_410 mw_411 mw_412 mw_5 rfl rfl ydX8_tap ⟨by decide, by decide⟩) (by decide) hg8 rfl rfl hl.1 rfl (Nat.le_of_ble_eq_true rfl) dL_law_296 hcs (fun r8 C8 H locs hq8 hP hS => ?_)
    obtain ⟨hr8, hM8, hF8⟩ := hq8.1 he
    have hA8 := clsA_same hA7 (fun j a b => hF8 j (by omega))
    refine lv_icmp_eq (tgt := 682) F.1 F.2.1 dL_law_299 (by decide) (fun c3 => ?_) (fun c3 => False.elim (c3 (hr7.trans hr8.symm)))
    refine lv_iinc (v := (nI (4 * k)) + 4) (lv' := [(3, .int ((nI (4 * k)) + 4)), (0, .ref (b)), (1, .ref (ad 0)), (2, .ref (ad 170))]) F.1 F.2.1 dL_law_682 hl (k := 0) rfl rfl (by decide) rfl (fun ls hl => ?_)
    refine lv_goto (tgt := 18) F.1 F.2.1 dL_law_685 (by decide) ?_
    exact kb _ _ _ _ hP hS (by rw [show nI (4 * (k + 1)) = nI (4 * k) + 4 from (nI_add (4 * k) 4).symm]; exact lv_sub hl [0, 1, 2, 3] rfl) ⟨(T_tapp x1 f), (H_rec f hs kn), (K_rec kn), sl, sv, pd, n, hA8, hM8, (okRow_mono (by omega) (okRow_tap x1 (by omega) hok)), (rec_ok (clsA_kn hA) (up1 hok) (fun i hi => up1 (hokh i hi))), (fun i hi => up1 (hoks i hi))⟩
  · obtain ⟨hr7, hw7⟩ := hq7.2 he; rw [hw7] at hP
    refine lv_aload_n F.1 F.2.1 dL_law_290 rfl (lv_at hl 3 rfl) ?_
    refine lv_aload_n F.1 F.2.1 dL_law_291 rfl (lv_at hl 1 rfl) ?_
    refine lv_iload_n F.1 F.2.1 dL_law_292 rfl (lv_at hl 0 rfl) ?_
    refine lv_iconst (v := 1) F.1 F.2.1 dL_law_293 (by decide) ?_
    refine lv_iadd F.1 F.2.1 dL_law_294 ?_
    refine va_sld F.1 F.2.1 hX hbl hbA hS (i := (nI (4 * k)) + 1) (by rw [show nI (4 * k) + 1 = nI (4 * k + 1) from nI_add _ 1]; exact vp_in_nI (by omega) (by omega)) dL_law_295 ?_
    refine lv_topi (fun v4 ev4 => ?_)
    have fv4 : x1 = v4 := hx1.trans ev4.symm
    subst fv4
    obtain ⟨gr8, hg8⟩ := mdlA_at hM
    refine w_calli F hP hS (cm_X8_tap l D Y ad 176 hI _ 170 (by decide) f hs kn sl sv pd n hM x1) (cwVm 1 F.2.2.2.2.1 (fun _ h => h) mw_413 mw_410 mw_411 mw_412 mw_5 rfl rfl ydX8_tap ⟨by decide, by decide⟩) (by decide) hg8 rfl rfl hl.1 rfl (Nat.le_of_ble_eq_true rfl) dL_law_296 hcs (fun r8 C8 H locs hq8 hP hS => ?_)
    obtain ⟨hr8, hM8, hF8⟩ := hq8.2 he
    have hA8 := clsA_same hA (fun j a b => hF8 j (by omega))
    refine lv_icmp_eq (tgt := 682) F.1 F.2.1 dL_law_299 (by decide) (fun c5 => ?_) (fun c5 => False.elim (c5 (hr7.trans hr8.symm)))
    refine lv_iinc (v := (nI (4 * k)) + 4) (lv' := [(3, .int ((nI (4 * k)) + 4)), (0, .ref (b)), (1, .ref (ad 0)), (2, .ref (ad 170))]) F.1 F.2.1 dL_law_682 hl (k := 0) rfl rfl (by decide) rfl (fun ls hl => ?_)
    refine lv_goto (tgt := 18) F.1 F.2.1 dL_law_685 (by decide) ?_
    exact kb _ _ _ _ hP hS (by rw [show nI (4 * (k + 1)) = nI (4 * k) + 4 from (nI_add (4 * k) 4).symm]; exact lv_sub hl [0, 1, 2, 3] rfl) ⟨f, hs, kn, sl, sv, pd, n, hA8, hM8, up1 hok, (fun i hi => up1 (hokh i hi)), (fun i hi => up1 (hoks i hi))⟩
set_option maxRecDepth 20000 in
set_option maxHeartbeats 2000000 in
theorem law_case_6 {p : Program} {l : Launch} {e : Env} {s : State} {m : MethodId} {below : List Frame} {meth : Method} {c : Code} {D : va_G} {Y : Nat → ClassId} {ad : Nat → Nat} (hI : wI ad 176) {b L : Nat} {xs : Nat → Int32} (hL : L ≤ 2048) (F : wFix p s m c #[Value.ref b] cL_law RL 4 D Y ad 176) (hX : va_X b L xs s s.heap) (hbl : b < s.heap.size) (hbA : ¬ wA ad 176 b) {cells slots : Nat} (hcs : cells ≤ room_1.cells ∧ slots ≤ room_1.slots) {Q : State → Prop} {k : Nat} (hk : k ≤ 512) (hkL : 4 * k + 4 ≤ L) {H : Heap} {locs : List Loc} {C : Nat → va_E} (hP : wP D ad 176 C H) (hS : va_S (wA ad 176) s.heap H locs) {ls : Array Slot} (hl : lv_has ls 4 [(3, .int (nI (4 * k))), (0, .ref b), (1, .ref (ad 0)), (2, .ref (ad 170))]) {f : Nat → Int32} {hs : Nat → Nat → Int32} {kn : Nat} {sl : Nat → Nat → Int32} {sv pd : Nat → Int32} {n : Nat} (hA : clsA Y ad C 0 f hs kn sl sv pd n) (hM : mdlA Y ad C 170 f hs kn sl sv pd n) (hok : okRow (60000 * k) f) (hokh : ∀ i, i < kn → okRow (60000 * k) (hs i)) (hoks : ∀ i, i < 2 → okRow (60000 * k) (sl i)) (kb : ∀ (H : Heap) (locs : List Loc) (C : Nat → va_E) (ls : Array Slot), wP D ad 176 C H → va_S (wA ad 176) s.heap H locs → lv_has ls 4 [(3, .int (nI (4 * (k + 1)))), (0, .ref b), (1, .ref (ad 0)), (2, .ref (ad 170))] → LINV Y ad C (k + 1) → W p l e room_1 s m #[Value.ref b] below meth c H locs cells slots Q (F0 m 18 ls [])) : W p l e room_1 s m #[Value.ref b] below meth c H locs cells slots Q (F0 m 304 ls []) := by
  obtain ⟨x1, hx1⟩ : ∃ z, z = xs (nI (4 * k) + 1).toNatClampNeg := ⟨_, rfl⟩
  obtain ⟨x2, hx2⟩ : ∃ z, z = xs (nI (4 * k) + 2).toNatClampNeg := ⟨_, rfl⟩
  obtain ⟨x3, hx3⟩ : ∃ z, z = xs (nI (4 * k) + 3).toNatClampNeg := ⟨_, rfl⟩
  refine lv_aload_n F.1 F.2.1 dL_law_304 rfl (lv_at hl 2 rfl) ?_
  refine w_calli F hP hS (c_X7_push l D Y ad 176 hI _ 0 (by decide) f hs kn sl sv pd n hA (60000 * (k : Int)) hok (by omega)) (cwVm 0 F.2.2.2.2.1 (fun _ h => h) mw_421 mw_418 mw_419 mw_420 mw_2 rfl rfl ydX7_push ⟨by decide, by decide⟩) (by decide) (clsA_at hA) rfl rfl hl.1 rfl (Nat.le_of_ble_eq_true rfl) dL_law_305 hcs (fun r7 C7 H locs hq7 hP hS => ?_)
  by_cases he : T_pu f = 0
  · obtain ⟨hr7, hA7, hF7⟩ := hq7.1 he
    have hM7 := mdlA_same hM (fun j a b => hF7 j (by omega))
    refine lv_aload_n F.1 F.2.1 dL_law_308 rfl (lv_at hl 3 rfl) ?_
    obtain ⟨gr8, hg8⟩ := mdlA_at hM7
    refine w_calli F hP hS (cm_X8_push l D Y ad 176 hI _ 170 (by decide) f hs kn sl sv pd n hM7 ) (cwVm 0 F.2.2.2.2.1 (fun _ h => h) mw_437 mw_434 mw_435 mw_436 mw_5 rfl rfl ydX8_push ⟨by decide, by decide⟩) (by decide) hg8 rfl rfl hl.1 rfl (Nat.le_of_ble_eq_true rfl) dL_law_309 hcs (fun r8 C8 H locs hq8 hP hS => ?_)
    obtain ⟨hr8, hM8, hF8⟩ := hq8.1 he
    have hA8 := clsA_same hA7 (fun j a b => hF8 j (by omega))
    refine lv_icmp_eq (tgt := 682) F.1 F.2.1 dL_law_312 (by decide) (fun c1 => ?_) (fun c1 => False.elim (c1 (hr7.trans hr8.symm)))
    refine lv_iinc (v := (nI (4 * k)) + 4) (lv' := [(3, .int ((nI (4 * k)) + 4)), (0, .ref (b)), (1, .ref (ad 0)), (2, .ref (ad 170))]) F.1 F.2.1 dL_law_682 hl (k := 0) rfl rfl (by decide) rfl (fun ls hl => ?_)
    refine lv_goto (tgt := 18) F.1 F.2.1 dL_law_685 (by decide) ?_
    exact kb _ _ _ _ hP hS (by rw [show nI (4 * (k + 1)) = nI (4 * k) + 4 from (nI_add (4 * k) 4).symm]; exact lv_sub hl [0, 1, 2, 3] rfl) ⟨(T_push f), (H_rec f hs kn), (K_rec kn), sl, sv, pd, n, hA8, hM8, (up1 (okRow_push hok)), (rec_ok (clsA_kn hA) (up1 hok) (fun i hi => up1 (hokh i hi))), (fun i hi => up1 (hoks i hi))⟩
  · obtain ⟨hr7, hw7⟩ := hq7.2 he; rw [hw7] at hP
    refine lv_aload_n F.1 F.2.1 dL_law_308 rfl (lv_at hl 3 rfl) ?_
    obtain ⟨gr8, hg8⟩ := mdlA_at hM
    refine w_calli F hP hS (cm_X8_push l D Y ad 176 hI _ 170 (by decide) f hs kn sl sv pd n hM ) (cwVm 0 F.2.2.2.2.1 (fun _ h => h) mw_437 mw_434 mw_435 mw_436 mw_5 rfl rfl ydX8_push ⟨by decide, by decide⟩) (by decide) hg8 rfl rfl hl.1 rfl (Nat.le_of_ble_eq_true rfl) dL_law_309 hcs (fun r8 C8 H locs hq8 hP hS => ?_)
    obtain ⟨hr8, hM8, hF8⟩ := hq8.2 he
    have hA8 := clsA_same hA (fun j a b => hF8 j (by omega))
    refine lv_icmp_eq (tgt := 682) F.1 F.2.1 dL_law_312 (by decide) (fun c2 => ?_) (fun c2 => False.elim (c2 (hr7.trans hr8.symm)))
    refine lv_iinc (v := (nI (4 * k)) + 4) (lv' := [(3, .int ((nI (4 * k)) + 4)), (0, .ref (b)), (1, .ref (ad 0)), (2, .ref (ad 170))]) F.1 F.2.1 dL_law_682 hl (k := 0) rfl rfl (by decide) rfl (fun ls hl => ?_)
    refine lv_goto (tgt := 18) F.1 F.2.1 dL_law_685 (by decide) ?_
    exact kb _ _ _ _ hP hS (by rw [show nI (4 * (k + 1)) = nI (4 * k) + 4 from (nI_add (4 * k) 4).symm]; exact lv_sub hl [0, 1, 2, 3] rfl) ⟨f, hs, kn, sl, sv, pd, n, hA8, hM8, up1 hok, (fun i hi => up1 (hokh i hi)), (fun i hi => up1 (hoks i hi))⟩
set_option maxRecDepth 20000 in
set_option maxHeartbeats 2000000 in
theorem law_case_7 {p : Program} {l : Launch} {e : Env} {s : State} {m : MethodId} {below : List Frame} {meth : Method} {c : Code} {D : va_G} {Y : Nat → ClassId} {ad : Nat → Nat} (hI : wI ad 176) {b L : Nat} {xs : Nat → Int32} (hL : L ≤ 2048) (F : wFix p s m c #[Value.ref b] cL_law RL 4 D Y ad 176) (hX : va_X b L xs s s.heap) (hbl : b < s.heap.size) (hbA : ¬ wA ad 176 b) {cells slots : Nat} (hcs : cells ≤ room_1.cells ∧ slots ≤ room_1.slots) {Q : State → Prop} {k : Nat} (hk : k ≤ 512) (hkL : 4 * k + 4 ≤ L) {H : Heap} {locs : List Loc} {C : Nat → va_E} (hP : wP D ad 176 C H) (hS : va_S (wA ad 176) s.heap H locs) {ls : Array Slot} (hl : lv_has ls 4 [(3, .int (nI (4 * k))), (0, .ref b), (1, .ref (ad 0)), (2, .ref (ad 170))]) {f : Nat → Int32} {hs : Nat → Nat → Int32} {kn : Nat} {sl : Nat → Nat → Int32} {sv pd : Nat → Int32} {n : Nat} (hA : clsA Y ad C 0 f hs kn sl sv pd n) (hM : mdlA Y ad C 170 f hs kn sl sv pd n) (hok : okRow (60000 * k) f) (hokh : ∀ i, i < kn → okRow (60000 * k) (hs i)) (hoks : ∀ i, i < 2 → okRow (60000 * k) (sl i)) (kb : ∀ (H : Heap) (locs : List Loc) (C : Nat → va_E) (ls : Array Slot), wP D ad 176 C H → va_S (wA ad 176) s.heap H locs → lv_has ls 4 [(3, .int (nI (4 * (k + 1)))), (0, .ref b), (1, .ref (ad 0)), (2, .ref (ad 170))] → LINV Y ad C (k + 1) → W p l e room_1 s m #[Value.ref b] below meth c H locs cells slots Q (F0 m 18 ls [])) : W p l e room_1 s m #[Value.ref b] below meth c H locs cells slots Q (F0 m 317 ls []) := by
  obtain ⟨x1, hx1⟩ : ∃ z, z = xs (nI (4 * k) + 1).toNatClampNeg := ⟨_, rfl⟩
  obtain ⟨x2, hx2⟩ : ∃ z, z = xs (nI (4 * k) + 2).toNatClampNeg := ⟨_, rfl⟩
  obtain ⟨x3, hx3⟩ : ∃ z, z = xs (nI (4 * k) + 3).toNatClampNeg := ⟨_, rfl⟩
  refine lv_aload_n F.1 F.2.1 dL_law_317 rfl (lv_at hl 2 rfl) ?_
  refine lv_aload_n F.1 F.2.1 dL_law_318 rfl (lv_at hl 1 rfl) ?_
  refine lv_iload_n F.1 F.2.1 dL_law_319 rfl (lv_at hl 0 rfl) ?_
  refine lv_iconst (v := 1) F.1 F.2.1 dL_law_320 (by decide) ?_
  refine lv_iadd F.1 F.2.1 dL_law_321 ?_
  refine va_sld F.1 F.2.1 hX hbl hbA hS (i := (nI (4 * k)) + 1) (by rw [show nI (4 * k) + 1 = nI (4 * k + 1) from nI_add _ 1]; exact vp_in_nI (by omega) (by omega)) dL_law_322 ?_
  refine lv_topi (fun v1 ev1 => ?_)
  have fv1 : x1 = v1 := hx1.trans ev1.symm
  subst fv1
  refine lv_aload_n F.1 F.2.1 dL_law_323 rfl (lv_at hl 1 rfl) ?_
  refine lv_iload_n F.1 F.2.1 dL_law_324 rfl (lv_at hl 0 rfl) ?_
  refine lv_iconst (v := 2) F.1 F.2.1 dL_law_325 (by decide) ?_
  refine lv_iadd F.1 F.2.1 dL_law_326 ?_
  refine va_sld F.1 F.2.1 hX hbl hbA hS (i := (nI (4 * k)) + 2) (by rw [show nI (4 * k) + 2 = nI (4 * k + 2) from nI_add _ 2]; exact vp_in_nI (by omega) (by omega)) dL_law_327 ?_
  refine lv_topi (fun v2 ev2 => ?_)
  have fv2 : x2 = v2 := hx2.trans ev2.symm
  subst fv2
  refine w_calli F hP hS (c_X7_of l D Y ad 176 hI _ 0 (by decide) f hs kn sl sv pd n hA x1 x2) (cwVm 2 F.2.2.2.2.1 (fun _ h => h) mw_445 mw_442 mw_443 mw_444 mw_2 rfl rfl ydX7_of ⟨by decide, by decide⟩) (by decide) (clsA_at hA) rfl rfl hl.1 rfl (Nat.le_of_ble_eq_true rfl) dL_law_328 hcs (fun r7 C7 H locs hq7 hP hS => ?_)
  obtain ⟨hw7, hr7⟩ := hq7; rw [hw7] at hP
  refine lv_aload_n F.1 F.2.1 dL_law_331 rfl (lv_at hl 3 rfl) ?_
  refine lv_aload_n F.1 F.2.1 dL_law_332 rfl (lv_at hl 1 rfl) ?_
  refine lv_iload_n F.1 F.2.1 dL_law_333 rfl (lv_at hl 0 rfl) ?_
  refine lv_iconst (v := 1) F.1 F.2.1 dL_law_334 (by decide) ?_
  refine lv_iadd F.1 F.2.1 dL_law_335 ?_
  refine va_sld F.1 F.2.1 hX hbl hbA hS (i := (nI (4 * k)) + 1) (by rw [show nI (4 * k) + 1 = nI (4 * k + 1) from nI_add _ 1]; exact vp_in_nI (by omega) (by omega)) dL_law_336 ?_
  refine lv_topi (fun v3 ev3 => ?_)
  have fv3 : x1 = v3 := hx1.trans ev3.symm
  subst fv3
  refine lv_aload_n F.1 F.2.1 dL_law_337 rfl (lv_at hl 1 rfl) ?_
  refine lv_iload_n F.1 F.2.1 dL_law_338 rfl (lv_at hl 0 rfl) ?_
  refine lv_iconst (v := 2) F.1 F.2.1 dL_law_339 (by decide) ?_
  refine lv_iadd F.1 F.2.1 dL_law_340 ?_
  refine va_sld F.1 F.2.1 hX hbl hbA hS (i := (nI (4 * k)) + 2) (by rw [show nI (4 * k) + 2 = nI (4 * k + 2) from nI_add _ 2]; exact vp_in_nI (by omega) (by omega)) dL_law_341 ?_
  refine lv_topi (fun v4 ev4 => ?_)
  have fv4 : x2 = v4 := hx2.trans ev4.symm
  subst fv4
  obtain ⟨gr8, hg8⟩ := mdlA_at hM
  refine w_calli F hP hS (cm_X8_of l D Y ad 176 hI _ 170 (by decide) f hs kn sl sv pd n hM x1 x2 (60000 * (k : Int)) hok (by omega) (by omega)) (cwVm 2 F.2.2.2.2.1 (fun _ h => h) mw_450 mw_447 mw_448 mw_449 mw_5 rfl rfl ydX8_of ⟨by decide, by decide⟩) (by decide) hg8 rfl rfl hl.1 rfl (Nat.le_of_ble_eq_true rfl) dL_law_342 hcs (fun r8 C8 H locs hq8 hP hS => ?_)
  obtain ⟨hr8, hM8, hF8⟩ := hq8
  have hA8 := clsA_same hA (fun j a b => hF8 j (by omega))
  refine lv_icmp_eq (tgt := 682) F.1 F.2.1 dL_law_345 (by decide) (fun c5 => ?_) (fun c5 => False.elim (c5 (hr7.trans hr8.symm)))
  refine lv_iinc (v := (nI (4 * k)) + 4) (lv' := [(3, .int ((nI (4 * k)) + 4)), (0, .ref (b)), (1, .ref (ad 0)), (2, .ref (ad 170))]) F.1 F.2.1 dL_law_682 hl (k := 0) rfl rfl (by decide) rfl (fun ls hl => ?_)
  refine lv_goto (tgt := 18) F.1 F.2.1 dL_law_685 (by decide) ?_
  exact kb _ _ _ _ hP hS (by rw [show nI (4 * (k + 1)) = nI (4 * k) + 4 from (nI_add (4 * k) 4).symm]; exact lv_sub hl [0, 1, 2, 3] rfl) ⟨f, hs, kn, sl, sv, pd, n, hA8, hM8, up1 hok, (fun i hi => up1 (hokh i hi)), (fun i hi => up1 (hoks i hi))⟩
set_option maxRecDepth 20000 in
set_option maxHeartbeats 2000000 in
theorem law_case_8 {p : Program} {l : Launch} {e : Env} {s : State} {m : MethodId} {below : List Frame} {meth : Method} {c : Code} {D : va_G} {Y : Nat → ClassId} {ad : Nat → Nat} (hI : wI ad 176) {b L : Nat} {xs : Nat → Int32} (hL : L ≤ 2048) (F : wFix p s m c #[Value.ref b] cL_law RL 4 D Y ad 176) (hX : va_X b L xs s s.heap) (hbl : b < s.heap.size) (hbA : ¬ wA ad 176 b) {cells slots : Nat} (hcs : cells ≤ room_1.cells ∧ slots ≤ room_1.slots) {Q : State → Prop} {k : Nat} (hk : k ≤ 512) (hkL : 4 * k + 4 ≤ L) {H : Heap} {locs : List Loc} {C : Nat → va_E} (hP : wP D ad 176 C H) (hS : va_S (wA ad 176) s.heap H locs) {ls : Array Slot} (hl : lv_has ls 4 [(3, .int (nI (4 * k))), (0, .ref b), (1, .ref (ad 0)), (2, .ref (ad 170))]) {f : Nat → Int32} {hs : Nat → Nat → Int32} {kn : Nat} {sl : Nat → Nat → Int32} {sv pd : Nat → Int32} {n : Nat} (hA : clsA Y ad C 0 f hs kn sl sv pd n) (hM : mdlA Y ad C 170 f hs kn sl sv pd n) (hok : okRow (60000 * k) f) (hokh : ∀ i, i < kn → okRow (60000 * k) (hs i)) (hoks : ∀ i, i < 2 → okRow (60000 * k) (sl i)) (kb : ∀ (H : Heap) (locs : List Loc) (C : Nat → va_E) (ls : Array Slot), wP D ad 176 C H → va_S (wA ad 176) s.heap H locs → lv_has ls 4 [(3, .int (nI (4 * (k + 1)))), (0, .ref b), (1, .ref (ad 0)), (2, .ref (ad 170))] → LINV Y ad C (k + 1) → W p l e room_1 s m #[Value.ref b] below meth c H locs cells slots Q (F0 m 18 ls [])) : W p l e room_1 s m #[Value.ref b] below meth c H locs cells slots Q (F0 m 350 ls []) := by
  obtain ⟨x1, hx1⟩ : ∃ z, z = xs (nI (4 * k) + 1).toNatClampNeg := ⟨_, rfl⟩
  obtain ⟨x2, hx2⟩ : ∃ z, z = xs (nI (4 * k) + 2).toNatClampNeg := ⟨_, rfl⟩
  obtain ⟨x3, hx3⟩ : ∃ z, z = xs (nI (4 * k) + 3).toNatClampNeg := ⟨_, rfl⟩
  refine lv_aload_n F.1 F.2.1 dL_law_350 rfl (lv_at hl 2 rfl) ?_
  refine lv_aload_n F.1 F.2.1 dL_law_351 rfl (lv_at hl 1 rfl) ?_
  refine lv_iload_n F.1 F.2.1 dL_law_352 rfl (lv_at hl 0 rfl) ?_
  refine lv_iconst (v := 1) F.1 F.2.1 dL_law_353 (by decide) ?_
  refine lv_iadd F.1 F.2.1 dL_law_354 ?_
  refine va_sld F.1 F.2.1 hX hbl hbA hS (i := (nI (4 * k)) + 1) (by rw [show nI (4 * k) + 1 = nI (4 * k + 1) from nI_add _ 1]; exact vp_in_nI (by omega) (by omega)) dL_law_355 ?_
  refine lv_topi (fun v1 ev1 => ?_)
  have fv1 : x1 = v1 := hx1.trans ev1.symm
  subst fv1
  refine w_calli F hP hS (c_X7_ofHoop l D Y ad 176 hI _ 0 (by decide) f hs kn sl sv pd n hA x1) (cwVm 1 F.2.2.2.2.1 (fun _ h => h) mw_454 mw_451 mw_452 mw_453 mw_2 rfl rfl ydX7_ofHoop ⟨by decide, by decide⟩) (by decide) (clsA_at hA) rfl rfl hl.1 rfl (Nat.le_of_ble_eq_true rfl) dL_law_356 hcs (fun r7 C7 H locs hq7 hP hS => ?_)
  obtain ⟨hw7, hr7⟩ := hq7; rw [hw7] at hP
  refine lv_aload_n F.1 F.2.1 dL_law_359 rfl (lv_at hl 3 rfl) ?_
  refine lv_aload_n F.1 F.2.1 dL_law_360 rfl (lv_at hl 1 rfl) ?_
  refine lv_iload_n F.1 F.2.1 dL_law_361 rfl (lv_at hl 0 rfl) ?_
  refine lv_iconst (v := 1) F.1 F.2.1 dL_law_362 (by decide) ?_
  refine lv_iadd F.1 F.2.1 dL_law_363 ?_
  refine va_sld F.1 F.2.1 hX hbl hbA hS (i := (nI (4 * k)) + 1) (by rw [show nI (4 * k) + 1 = nI (4 * k + 1) from nI_add _ 1]; exact vp_in_nI (by omega) (by omega)) dL_law_364 ?_
  refine lv_topi (fun v2 ev2 => ?_)
  have fv2 : x1 = v2 := hx1.trans ev2.symm
  subst fv2
  obtain ⟨gr8, hg8⟩ := mdlA_at hM
  refine w_calli F hP hS (cm_X8_ofHoop l D Y ad 176 hI _ 170 (by decide) f hs kn sl sv pd n hM x1) (cwVm 1 F.2.2.2.2.1 (fun _ h => h) mw_461 mw_458 mw_459 mw_460 mw_5 rfl rfl ydX8_ofHoop ⟨by decide, by decide⟩) (by decide) hg8 rfl rfl hl.1 rfl (Nat.le_of_ble_eq_true rfl) dL_law_365 hcs (fun r8 C8 H locs hq8 hP hS => ?_)
  obtain ⟨hr8, hM8, hF8⟩ := hq8
  have hA8 := clsA_same hA (fun j a b => hF8 j (by omega))
  refine lv_icmp_eq (tgt := 682) F.1 F.2.1 dL_law_368 (by decide) (fun c3 => ?_) (fun c3 => False.elim (c3 (hr7.trans hr8.symm)))
  refine lv_iinc (v := (nI (4 * k)) + 4) (lv' := [(3, .int ((nI (4 * k)) + 4)), (0, .ref (b)), (1, .ref (ad 0)), (2, .ref (ad 170))]) F.1 F.2.1 dL_law_682 hl (k := 0) rfl rfl (by decide) rfl (fun ls hl => ?_)
  refine lv_goto (tgt := 18) F.1 F.2.1 dL_law_685 (by decide) ?_
  exact kb _ _ _ _ hP hS (by rw [show nI (4 * (k + 1)) = nI (4 * k) + 4 from (nI_add (4 * k) 4).symm]; exact lv_sub hl [0, 1, 2, 3] rfl) ⟨f, hs, kn, sl, sv, pd, n, hA8, hM8, up1 hok, (fun i hi => up1 (hokh i hi)), (fun i hi => up1 (hoks i hi))⟩
set_option maxRecDepth 20000 in
set_option maxHeartbeats 2000000 in
theorem law_case_9 {p : Program} {l : Launch} {e : Env} {s : State} {m : MethodId} {below : List Frame} {meth : Method} {c : Code} {D : va_G} {Y : Nat → ClassId} {ad : Nat → Nat} (hI : wI ad 176) {b L : Nat} {xs : Nat → Int32} (hL : L ≤ 2048) (F : wFix p s m c #[Value.ref b] cL_law RL 4 D Y ad 176) (hX : va_X b L xs s s.heap) (hbl : b < s.heap.size) (hbA : ¬ wA ad 176 b) {cells slots : Nat} (hcs : cells ≤ room_1.cells ∧ slots ≤ room_1.slots) {Q : State → Prop} {k : Nat} (hk : k ≤ 512) (hkL : 4 * k + 4 ≤ L) {H : Heap} {locs : List Loc} {C : Nat → va_E} (hP : wP D ad 176 C H) (hS : va_S (wA ad 176) s.heap H locs) {ls : Array Slot} (hl : lv_has ls 4 [(3, .int (nI (4 * k))), (0, .ref b), (1, .ref (ad 0)), (2, .ref (ad 170))]) {f : Nat → Int32} {hs : Nat → Nat → Int32} {kn : Nat} {sl : Nat → Nat → Int32} {sv pd : Nat → Int32} {n : Nat} (hA : clsA Y ad C 0 f hs kn sl sv pd n) (hM : mdlA Y ad C 170 f hs kn sl sv pd n) (hok : okRow (60000 * k) f) (hokh : ∀ i, i < kn → okRow (60000 * k) (hs i)) (hoks : ∀ i, i < 2 → okRow (60000 * k) (sl i)) (kb : ∀ (H : Heap) (locs : List Loc) (C : Nat → va_E) (ls : Array Slot), wP D ad 176 C H → va_S (wA ad 176) s.heap H locs → lv_has ls 4 [(3, .int (nI (4 * (k + 1)))), (0, .ref b), (1, .ref (ad 0)), (2, .ref (ad 170))] → LINV Y ad C (k + 1) → W p l e room_1 s m #[Value.ref b] below meth c H locs cells slots Q (F0 m 18 ls [])) : W p l e room_1 s m #[Value.ref b] below meth c H locs cells slots Q (F0 m 373 ls []) := by
  obtain ⟨x1, hx1⟩ : ∃ z, z = xs (nI (4 * k) + 1).toNatClampNeg := ⟨_, rfl⟩
  obtain ⟨x2, hx2⟩ : ∃ z, z = xs (nI (4 * k) + 2).toNatClampNeg := ⟨_, rfl⟩
  obtain ⟨x3, hx3⟩ : ∃ z, z = xs (nI (4 * k) + 3).toNatClampNeg := ⟨_, rfl⟩
  refine lv_aload_n F.1 F.2.1 dL_law_373 rfl (lv_at hl 2 rfl) ?_
  refine lv_aload_n F.1 F.2.1 dL_law_374 rfl (lv_at hl 1 rfl) ?_
  refine lv_iload_n F.1 F.2.1 dL_law_375 rfl (lv_at hl 0 rfl) ?_
  refine lv_iconst (v := 1) F.1 F.2.1 dL_law_376 (by decide) ?_
  refine lv_iadd F.1 F.2.1 dL_law_377 ?_
  refine va_sld F.1 F.2.1 hX hbl hbA hS (i := (nI (4 * k)) + 1) (by rw [show nI (4 * k) + 1 = nI (4 * k + 1) from nI_add _ 1]; exact vp_in_nI (by omega) (by omega)) dL_law_378 ?_
  refine lv_topi (fun v1 ev1 => ?_)
  have fv1 : x1 = v1 := hx1.trans ev1.symm
  subst fv1
  refine lv_aload_n F.1 F.2.1 dL_law_379 rfl (lv_at hl 1 rfl) ?_
  refine lv_iload_n F.1 F.2.1 dL_law_380 rfl (lv_at hl 0 rfl) ?_
  refine lv_iconst (v := 2) F.1 F.2.1 dL_law_381 (by decide) ?_
  refine lv_iadd F.1 F.2.1 dL_law_382 ?_
  refine va_sld F.1 F.2.1 hX hbl hbA hS (i := (nI (4 * k)) + 2) (by rw [show nI (4 * k) + 2 = nI (4 * k + 2) from nI_add _ 2]; exact vp_in_nI (by omega) (by omega)) dL_law_383 ?_
  refine lv_topi (fun v2 ev2 => ?_)
  have fv2 : x2 = v2 := hx2.trans ev2.symm
  subst fv2
  refine w_calli F hP hS (c_X7_run l D Y ad 176 hI _ 0 (by decide) f hs kn sl sv pd n hA x1 x2) (cwVm 2 F.2.2.2.2.1 (fun _ h => h) mw_465 mw_462 mw_463 mw_464 mw_2 rfl rfl ydX7_run ⟨by decide, by decide⟩) (by decide) (clsA_at hA) rfl rfl hl.1 rfl (Nat.le_of_ble_eq_true rfl) dL_law_384 hcs (fun r7 C7 H locs hq7 hP hS => ?_)
  obtain ⟨hw7, hr7⟩ := hq7; rw [hw7] at hP
  refine lv_aload_n F.1 F.2.1 dL_law_387 rfl (lv_at hl 3 rfl) ?_
  refine lv_aload_n F.1 F.2.1 dL_law_388 rfl (lv_at hl 1 rfl) ?_
  refine lv_iload_n F.1 F.2.1 dL_law_389 rfl (lv_at hl 0 rfl) ?_
  refine lv_iconst (v := 1) F.1 F.2.1 dL_law_390 (by decide) ?_
  refine lv_iadd F.1 F.2.1 dL_law_391 ?_
  refine va_sld F.1 F.2.1 hX hbl hbA hS (i := (nI (4 * k)) + 1) (by rw [show nI (4 * k) + 1 = nI (4 * k + 1) from nI_add _ 1]; exact vp_in_nI (by omega) (by omega)) dL_law_392 ?_
  refine lv_topi (fun v3 ev3 => ?_)
  have fv3 : x1 = v3 := hx1.trans ev3.symm
  subst fv3
  refine lv_aload_n F.1 F.2.1 dL_law_393 rfl (lv_at hl 1 rfl) ?_
  refine lv_iload_n F.1 F.2.1 dL_law_394 rfl (lv_at hl 0 rfl) ?_
  refine lv_iconst (v := 2) F.1 F.2.1 dL_law_395 (by decide) ?_
  refine lv_iadd F.1 F.2.1 dL_law_396 ?_
  refine va_sld F.1 F.2.1 hX hbl hbA hS (i := (nI (4 * k)) + 2) (by rw [show nI (4 * k) + 2 = nI (4 * k + 2) from nI_add _ 2]; exact vp_in_nI (by omega) (by omega)) dL_law_397 ?_
  refine lv_topi (fun v4 ev4 => ?_)
  have fv4 : x2 = v4 := hx2.trans ev4.symm
  subst fv4
  obtain ⟨gr8, hg8⟩ := mdlA_at hM
  refine w_calli F hP hS (cm_X8_run l D Y ad 176 hI _ 170 (by decide) f hs kn sl sv pd n hM x1 x2 (60000 * (k : Int)) hok (by omega) (by omega)) (cwVm 2 F.2.2.2.2.1 (fun _ h => h) mw_478 mw_475 mw_476 mw_477 mw_5 rfl rfl ydX8_run ⟨by decide, by decide⟩) (by decide) hg8 rfl rfl hl.1 rfl (Nat.le_of_ble_eq_true rfl) dL_law_398 hcs (fun r8 C8 H locs hq8 hP hS => ?_)
  obtain ⟨hr8, hM8, hF8⟩ := hq8
  have hA8 := clsA_same hA (fun j a b => hF8 j (by omega))
  refine lv_icmp_eq (tgt := 682) F.1 F.2.1 dL_law_401 (by decide) (fun c5 => ?_) (fun c5 => False.elim (c5 (hr7.trans hr8.symm)))
  refine lv_iinc (v := (nI (4 * k)) + 4) (lv' := [(3, .int ((nI (4 * k)) + 4)), (0, .ref (b)), (1, .ref (ad 0)), (2, .ref (ad 170))]) F.1 F.2.1 dL_law_682 hl (k := 0) rfl rfl (by decide) rfl (fun ls hl => ?_)
  refine lv_goto (tgt := 18) F.1 F.2.1 dL_law_685 (by decide) ?_
  exact kb _ _ _ _ hP hS (by rw [show nI (4 * (k + 1)) = nI (4 * k) + 4 from (nI_add (4 * k) 4).symm]; exact lv_sub hl [0, 1, 2, 3] rfl) ⟨f, hs, kn, sl, sv, pd, n, hA8, hM8, up1 hok, (fun i hi => up1 (hokh i hi)), (fun i hi => up1 (hoks i hi))⟩
set_option maxRecDepth 20000 in
set_option maxHeartbeats 2000000 in
theorem law_case_10 {p : Program} {l : Launch} {e : Env} {s : State} {m : MethodId} {below : List Frame} {meth : Method} {c : Code} {D : va_G} {Y : Nat → ClassId} {ad : Nat → Nat} (hI : wI ad 176) {b L : Nat} {xs : Nat → Int32} (hL : L ≤ 2048) (F : wFix p s m c #[Value.ref b] cL_law RL 4 D Y ad 176) (hX : va_X b L xs s s.heap) (hbl : b < s.heap.size) (hbA : ¬ wA ad 176 b) {cells slots : Nat} (hcs : cells ≤ room_1.cells ∧ slots ≤ room_1.slots) {Q : State → Prop} {k : Nat} (hk : k ≤ 512) (hkL : 4 * k + 4 ≤ L) {H : Heap} {locs : List Loc} {C : Nat → va_E} (hP : wP D ad 176 C H) (hS : va_S (wA ad 176) s.heap H locs) {ls : Array Slot} (hl : lv_has ls 4 [(3, .int (nI (4 * k))), (0, .ref b), (1, .ref (ad 0)), (2, .ref (ad 170))]) {f : Nat → Int32} {hs : Nat → Nat → Int32} {kn : Nat} {sl : Nat → Nat → Int32} {sv pd : Nat → Int32} {n : Nat} (hA : clsA Y ad C 0 f hs kn sl sv pd n) (hM : mdlA Y ad C 170 f hs kn sl sv pd n) (hok : okRow (60000 * k) f) (hokh : ∀ i, i < kn → okRow (60000 * k) (hs i)) (hoks : ∀ i, i < 2 → okRow (60000 * k) (sl i)) (kb : ∀ (H : Heap) (locs : List Loc) (C : Nat → va_E) (ls : Array Slot), wP D ad 176 C H → va_S (wA ad 176) s.heap H locs → lv_has ls 4 [(3, .int (nI (4 * (k + 1)))), (0, .ref b), (1, .ref (ad 0)), (2, .ref (ad 170))] → LINV Y ad C (k + 1) → W p l e room_1 s m #[Value.ref b] below meth c H locs cells slots Q (F0 m 18 ls [])) : W p l e room_1 s m #[Value.ref b] below meth c H locs cells slots Q (F0 m 406 ls []) := by
  obtain ⟨x1, hx1⟩ : ∃ z, z = xs (nI (4 * k) + 1).toNatClampNeg := ⟨_, rfl⟩
  obtain ⟨x2, hx2⟩ : ∃ z, z = xs (nI (4 * k) + 2).toNatClampNeg := ⟨_, rfl⟩
  obtain ⟨x3, hx3⟩ : ∃ z, z = xs (nI (4 * k) + 3).toNatClampNeg := ⟨_, rfl⟩
  refine lv_aload_n F.1 F.2.1 dL_law_406 rfl (lv_at hl 2 rfl) ?_
  refine lv_aload_n F.1 F.2.1 dL_law_407 rfl (lv_at hl 1 rfl) ?_
  refine lv_iload_n F.1 F.2.1 dL_law_408 rfl (lv_at hl 0 rfl) ?_
  refine lv_iconst (v := 1) F.1 F.2.1 dL_law_409 (by decide) ?_
  refine lv_iadd F.1 F.2.1 dL_law_410 ?_
  refine va_sld F.1 F.2.1 hX hbl hbA hS (i := (nI (4 * k)) + 1) (by rw [show nI (4 * k) + 1 = nI (4 * k + 1) from nI_add _ 1]; exact vp_in_nI (by omega) (by omega)) dL_law_411 ?_
  refine lv_topi (fun v1 ev1 => ?_)
  have fv1 : x1 = v1 := hx1.trans ev1.symm
  subst fv1
  refine w_calli F hP hS (c_X7_count l D Y ad 176 hI _ 0 (by decide) f hs kn sl sv pd n hA (60000 * (k : Int)) x1 hok) (cwVm 1 F.2.2.2.2.1 (fun _ h => h) mw_482 mw_479 mw_480 mw_481 mw_2 rfl rfl ydX7_count ⟨by decide, by decide⟩) (by decide) (clsA_at hA) rfl rfl hl.1 rfl (Nat.le_of_ble_eq_true rfl) dL_law_412 hcs (fun r7 C7 H locs hq7 hP hS => ?_)
  obtain ⟨hw7, hr7⟩ := hq7; rw [hw7] at hP
  refine lv_aload_n F.1 F.2.1 dL_law_415 rfl (lv_at hl 3 rfl) ?_
  refine lv_aload_n F.1 F.2.1 dL_law_416 rfl (lv_at hl 1 rfl) ?_
  refine lv_iload_n F.1 F.2.1 dL_law_417 rfl (lv_at hl 0 rfl) ?_
  refine lv_iconst (v := 1) F.1 F.2.1 dL_law_418 (by decide) ?_
  refine lv_iadd F.1 F.2.1 dL_law_419 ?_
  refine va_sld F.1 F.2.1 hX hbl hbA hS (i := (nI (4 * k)) + 1) (by rw [show nI (4 * k) + 1 = nI (4 * k + 1) from nI_add _ 1]; exact vp_in_nI (by omega) (by omega)) dL_law_420 ?_
  refine lv_topi (fun v2 ev2 => ?_)
  have fv2 : x1 = v2 := hx1.trans ev2.symm
  subst fv2
  obtain ⟨gr8, hg8⟩ := mdlA_at hM
  refine w_calli F hP hS (cm_X8_count l D Y ad 176 hI _ 170 (by decide) f hs kn sl sv pd n hM x1 (60000 * (k : Int)) hok (by omega) (by omega)) (cwVm 1 F.2.2.2.2.1 (fun _ h => h) mw_500 mw_497 mw_498 mw_499 mw_5 rfl rfl ydX8_count ⟨by decide, by decide⟩) (by decide) hg8 rfl rfl hl.1 rfl (Nat.le_of_ble_eq_true rfl) dL_law_421 hcs (fun r8 C8 H locs hq8 hP hS => ?_)
  obtain ⟨hr8, hM8, hF8⟩ := hq8
  have hA8 := clsA_same hA (fun j a b => hF8 j (by omega))
  refine lv_icmp_eq (tgt := 682) F.1 F.2.1 dL_law_424 (by decide) (fun c3 => ?_) (fun c3 => False.elim (c3 (hr7.trans hr8.symm)))
  refine lv_iinc (v := (nI (4 * k)) + 4) (lv' := [(3, .int ((nI (4 * k)) + 4)), (0, .ref (b)), (1, .ref (ad 0)), (2, .ref (ad 170))]) F.1 F.2.1 dL_law_682 hl (k := 0) rfl rfl (by decide) rfl (fun ls hl => ?_)
  refine lv_goto (tgt := 18) F.1 F.2.1 dL_law_685 (by decide) ?_
  exact kb _ _ _ _ hP hS (by rw [show nI (4 * (k + 1)) = nI (4 * k) + 4 from (nI_add (4 * k) 4).symm]; exact lv_sub hl [0, 1, 2, 3] rfl) ⟨f, hs, kn, sl, sv, pd, n, hA8, hM8, up1 hok, (fun i hi => up1 (hokh i hi)), (fun i hi => up1 (hoks i hi))⟩
set_option maxRecDepth 20000 in
set_option maxHeartbeats 2000000 in
theorem law_case_11 {p : Program} {l : Launch} {e : Env} {s : State} {m : MethodId} {below : List Frame} {meth : Method} {c : Code} {D : va_G} {Y : Nat → ClassId} {ad : Nat → Nat} (hI : wI ad 176) {b L : Nat} {xs : Nat → Int32} (hL : L ≤ 2048) (F : wFix p s m c #[Value.ref b] cL_law RL 4 D Y ad 176) (hX : va_X b L xs s s.heap) (hbl : b < s.heap.size) (hbA : ¬ wA ad 176 b) {cells slots : Nat} (hcs : cells ≤ room_1.cells ∧ slots ≤ room_1.slots) {Q : State → Prop} {k : Nat} (hk : k ≤ 512) (hkL : 4 * k + 4 ≤ L) {H : Heap} {locs : List Loc} {C : Nat → va_E} (hP : wP D ad 176 C H) (hS : va_S (wA ad 176) s.heap H locs) {ls : Array Slot} (hl : lv_has ls 4 [(3, .int (nI (4 * k))), (0, .ref b), (1, .ref (ad 0)), (2, .ref (ad 170))]) {f : Nat → Int32} {hs : Nat → Nat → Int32} {kn : Nat} {sl : Nat → Nat → Int32} {sv pd : Nat → Int32} {n : Nat} (hA : clsA Y ad C 0 f hs kn sl sv pd n) (hM : mdlA Y ad C 170 f hs kn sl sv pd n) (hok : okRow (60000 * k) f) (hokh : ∀ i, i < kn → okRow (60000 * k) (hs i)) (hoks : ∀ i, i < 2 → okRow (60000 * k) (sl i)) (kb : ∀ (H : Heap) (locs : List Loc) (C : Nat → va_E) (ls : Array Slot), wP D ad 176 C H → va_S (wA ad 176) s.heap H locs → lv_has ls 4 [(3, .int (nI (4 * (k + 1)))), (0, .ref b), (1, .ref (ad 0)), (2, .ref (ad 170))] → LINV Y ad C (k + 1) → W p l e room_1 s m #[Value.ref b] below meth c H locs cells slots Q (F0 m 18 ls [])) : W p l e room_1 s m #[Value.ref b] below meth c H locs cells slots Q (F0 m 429 ls []) := by
  obtain ⟨x1, hx1⟩ : ∃ z, z = xs (nI (4 * k) + 1).toNatClampNeg := ⟨_, rfl⟩
  obtain ⟨x2, hx2⟩ : ∃ z, z = xs (nI (4 * k) + 2).toNatClampNeg := ⟨_, rfl⟩
  obtain ⟨x3, hx3⟩ : ∃ z, z = xs (nI (4 * k) + 3).toNatClampNeg := ⟨_, rfl⟩
  refine lv_aload_n F.1 F.2.1 dL_law_429 rfl (lv_at hl 2 rfl) ?_
  refine lv_aload_n F.1 F.2.1 dL_law_430 rfl (lv_at hl 1 rfl) ?_
  refine lv_iload_n F.1 F.2.1 dL_law_431 rfl (lv_at hl 0 rfl) ?_
  refine lv_iconst (v := 1) F.1 F.2.1 dL_law_432 (by decide) ?_
  refine lv_iadd F.1 F.2.1 dL_law_433 ?_
  refine va_sld F.1 F.2.1 hX hbl hbA hS (i := (nI (4 * k)) + 1) (by rw [show nI (4 * k) + 1 = nI (4 * k + 1) from nI_add _ 1]; exact vp_in_nI (by omega) (by omega)) dL_law_434 ?_
  refine lv_topi (fun v1 ev1 => ?_)
  have fv1 : x1 = v1 := hx1.trans ev1.symm
  subst fv1
  refine w_calli F hP hS (c_X7_ifRolled l D Y ad 176 hI _ 0 (by decide) f hs kn sl sv pd n hA x1 (60000 * (k : Int)) hok (by omega) (by omega)) (cwVm 1 F.2.2.2.2.1 (fun _ h => h) mw_509 mw_506 mw_507 mw_508 mw_2 rfl rfl ydX7_ifRolled ⟨by decide, by decide⟩) (by decide) (clsA_at hA) rfl rfl hl.1 rfl (Nat.le_of_ble_eq_true rfl) dL_law_435 hcs (fun r7 C7 H locs hq7 hP hS => ?_)
  obtain ⟨hr7, hA7, hF7⟩ := hq7
  have hM7 := mdlA_same hM (fun j a b => hF7 j (by omega))
  refine lv_aload_n F.1 F.2.1 dL_law_438 rfl (lv_at hl 3 rfl) ?_
  refine lv_aload_n F.1 F.2.1 dL_law_439 rfl (lv_at hl 1 rfl) ?_
  refine lv_iload_n F.1 F.2.1 dL_law_440 rfl (lv_at hl 0 rfl) ?_
  refine lv_iconst (v := 1) F.1 F.2.1 dL_law_441 (by decide) ?_
  refine lv_iadd F.1 F.2.1 dL_law_442 ?_
  refine va_sld F.1 F.2.1 hX hbl hbA hS (i := (nI (4 * k)) + 1) (by rw [show nI (4 * k) + 1 = nI (4 * k + 1) from nI_add _ 1]; exact vp_in_nI (by omega) (by omega)) dL_law_443 ?_
  refine lv_topi (fun v2 ev2 => ?_)
  have fv2 : x1 = v2 := hx1.trans ev2.symm
  subst fv2
  obtain ⟨gr8, hg8⟩ := mdlA_at hM7
  refine w_calli F hP hS (cm_X8_ifRolled l D Y ad 176 hI _ 170 (by decide) f hs kn sl sv pd n hM7 x1 (60000 * (k : Int)) hok (by omega) (by omega)) (cwVm 1 F.2.2.2.2.1 (fun _ h => h) mw_516 mw_513 mw_514 mw_515 mw_5 rfl rfl ydX8_ifRolled ⟨by decide, by decide⟩) (by decide) hg8 rfl rfl hl.1 rfl (Nat.le_of_ble_eq_true rfl) dL_law_444 hcs (fun r8 C8 H locs hq8 hP hS => ?_)
  obtain ⟨hr8, hM8, hF8⟩ := hq8
  have hA8 := clsA_same hA7 (fun j a b => hF8 j (by omega))
  refine lv_icmp_eq (tgt := 682) F.1 F.2.1 dL_law_447 (by decide) (fun c3 => ?_) (fun c3 => False.elim (c3 (hr7.trans hr8.symm)))
  refine lv_iinc (v := (nI (4 * k)) + 4) (lv' := [(3, .int ((nI (4 * k)) + 4)), (0, .ref (b)), (1, .ref (ad 0)), (2, .ref (ad 170))]) F.1 F.2.1 dL_law_682 hl (k := 0) rfl rfl (by decide) rfl (fun ls hl => ?_)
  refine lv_goto (tgt := 18) F.1 F.2.1 dL_law_685 (by decide) ?_
  exact kb _ _ _ _ hP hS (by rw [show nI (4 * (k + 1)) = nI (4 * k) + 4 from (nI_add (4 * k) 4).symm]; exact lv_sub hl [0, 1, 2, 3] rfl) ⟨f, hs, kn, sl, sv, pd, n, hA8, hM8, up1 hok, (fun i hi => up1 (hokh i hi)), (fun i hi => up1 (hoks i hi))⟩
set_option maxRecDepth 20000 in
set_option maxHeartbeats 2000000 in
theorem law_case_12 {p : Program} {l : Launch} {e : Env} {s : State} {m : MethodId} {below : List Frame} {meth : Method} {c : Code} {D : va_G} {Y : Nat → ClassId} {ad : Nat → Nat} (hI : wI ad 176) {b L : Nat} {xs : Nat → Int32} (hL : L ≤ 2048) (F : wFix p s m c #[Value.ref b] cL_law RL 4 D Y ad 176) (hX : va_X b L xs s s.heap) (hbl : b < s.heap.size) (hbA : ¬ wA ad 176 b) {cells slots : Nat} (hcs : cells ≤ room_1.cells ∧ slots ≤ room_1.slots) {Q : State → Prop} {k : Nat} (hk : k ≤ 512) (hkL : 4 * k + 4 ≤ L) {H : Heap} {locs : List Loc} {C : Nat → va_E} (hP : wP D ad 176 C H) (hS : va_S (wA ad 176) s.heap H locs) {ls : Array Slot} (hl : lv_has ls 4 [(3, .int (nI (4 * k))), (0, .ref b), (1, .ref (ad 0)), (2, .ref (ad 170))]) {f : Nat → Int32} {hs : Nat → Nat → Int32} {kn : Nat} {sl : Nat → Nat → Int32} {sv pd : Nat → Int32} {n : Nat} (hA : clsA Y ad C 0 f hs kn sl sv pd n) (hM : mdlA Y ad C 170 f hs kn sl sv pd n) (hok : okRow (60000 * k) f) (hokh : ∀ i, i < kn → okRow (60000 * k) (hs i)) (hoks : ∀ i, i < 2 → okRow (60000 * k) (sl i)) (kb : ∀ (H : Heap) (locs : List Loc) (C : Nat → va_E) (ls : Array Slot), wP D ad 176 C H → va_S (wA ad 176) s.heap H locs → lv_has ls 4 [(3, .int (nI (4 * (k + 1)))), (0, .ref b), (1, .ref (ad 0)), (2, .ref (ad 170))] → LINV Y ad C (k + 1) → W p l e room_1 s m #[Value.ref b] below meth c H locs cells slots Q (F0 m 18 ls [])) : W p l e room_1 s m #[Value.ref b] below meth c H locs cells slots Q (F0 m 452 ls []) := by
  obtain ⟨x1, hx1⟩ : ∃ z, z = xs (nI (4 * k) + 1).toNatClampNeg := ⟨_, rfl⟩
  obtain ⟨x2, hx2⟩ : ∃ z, z = xs (nI (4 * k) + 2).toNatClampNeg := ⟨_, rfl⟩
  obtain ⟨x3, hx3⟩ : ∃ z, z = xs (nI (4 * k) + 3).toNatClampNeg := ⟨_, rfl⟩
  refine lv_aload_n F.1 F.2.1 dL_law_452 rfl (lv_at hl 2 rfl) ?_
  refine w_calli F hP hS (c_X7_widest l D Y ad 176 hI _ 0 (by decide) f hs kn sl sv pd n hA (60000 * (k : Int)) hok (by omega) (by omega)) (cwVm 0 F.2.2.2.2.1 (fun _ h => h) mw_524 mw_521 mw_522 mw_523 mw_2 rfl rfl ydX7_widest ⟨by decide, by decide⟩) (by decide) (clsA_at hA) rfl rfl hl.1 rfl (Nat.le_of_ble_eq_true rfl) dL_law_453 hcs (fun r7 C7 H locs hq7 hP hS => ?_)
  obtain ⟨hr7, hA7, hF7⟩ := hq7
  have hM7 := mdlA_same hM (fun j a b => hF7 j (by omega))
  refine lv_aload_n F.1 F.2.1 dL_law_456 rfl (lv_at hl 3 rfl) ?_
  obtain ⟨gr8, hg8⟩ := mdlA_at hM7
  refine w_calli F hP hS (cm_X8_widest l D Y ad 176 hI _ 170 (by decide) f hs kn sl sv pd n hM7 (60000 * (k : Int)) hok (by omega) (by omega)) (cwVm 0 F.2.2.2.2.1 (fun _ h => h) mw_529 mw_526 mw_527 mw_528 mw_5 rfl rfl ydX8_widest ⟨by decide, by decide⟩) (by decide) hg8 rfl rfl hl.1 rfl (Nat.le_of_ble_eq_true rfl) dL_law_457 hcs (fun r8 C8 H locs hq8 hP hS => ?_)
  obtain ⟨hr8, hM8, hF8⟩ := hq8
  have hA8 := clsA_same hA7 (fun j a b => hF8 j (by omega))
  refine lv_icmp_eq (tgt := 682) F.1 F.2.1 dL_law_460 (by decide) (fun c1 => ?_) (fun c1 => False.elim (c1 (hr7.trans hr8.symm)))
  refine lv_iinc (v := (nI (4 * k)) + 4) (lv' := [(3, .int ((nI (4 * k)) + 4)), (0, .ref (b)), (1, .ref (ad 0)), (2, .ref (ad 170))]) F.1 F.2.1 dL_law_682 hl (k := 0) rfl rfl (by decide) rfl (fun ls hl => ?_)
  refine lv_goto (tgt := 18) F.1 F.2.1 dL_law_685 (by decide) ?_
  exact kb _ _ _ _ hP hS (by rw [show nI (4 * (k + 1)) = nI (4 * k) + 4 from (nI_add (4 * k) 4).symm]; exact lv_sub hl [0, 1, 2, 3] rfl) ⟨f, hs, kn, sl, sv, pd, n, hA8, hM8, up1 hok, (fun i hi => up1 (hokh i hi)), (fun i hi => up1 (hoks i hi))⟩
set_option maxRecDepth 20000 in
set_option maxHeartbeats 2000000 in
theorem law_case_13 {p : Program} {l : Launch} {e : Env} {s : State} {m : MethodId} {below : List Frame} {meth : Method} {c : Code} {D : va_G} {Y : Nat → ClassId} {ad : Nat → Nat} (hI : wI ad 176) {b L : Nat} {xs : Nat → Int32} (hL : L ≤ 2048) (F : wFix p s m c #[Value.ref b] cL_law RL 4 D Y ad 176) (hX : va_X b L xs s s.heap) (hbl : b < s.heap.size) (hbA : ¬ wA ad 176 b) {cells slots : Nat} (hcs : cells ≤ room_1.cells ∧ slots ≤ room_1.slots) {Q : State → Prop} {k : Nat} (hk : k ≤ 512) (hkL : 4 * k + 4 ≤ L) {H : Heap} {locs : List Loc} {C : Nat → va_E} (hP : wP D ad 176 C H) (hS : va_S (wA ad 176) s.heap H locs) {ls : Array Slot} (hl : lv_has ls 4 [(3, .int (nI (4 * k))), (0, .ref b), (1, .ref (ad 0)), (2, .ref (ad 170))]) {f : Nat → Int32} {hs : Nat → Nat → Int32} {kn : Nat} {sl : Nat → Nat → Int32} {sv pd : Nat → Int32} {n : Nat} (hA : clsA Y ad C 0 f hs kn sl sv pd n) (hM : mdlA Y ad C 170 f hs kn sl sv pd n) (hok : okRow (60000 * k) f) (hokh : ∀ i, i < kn → okRow (60000 * k) (hs i)) (hoks : ∀ i, i < 2 → okRow (60000 * k) (sl i)) (kb : ∀ (H : Heap) (locs : List Loc) (C : Nat → va_E) (ls : Array Slot), wP D ad 176 C H → va_S (wA ad 176) s.heap H locs → lv_has ls 4 [(3, .int (nI (4 * (k + 1)))), (0, .ref b), (1, .ref (ad 0)), (2, .ref (ad 170))] → LINV Y ad C (k + 1) → W p l e room_1 s m #[Value.ref b] below meth c H locs cells slots Q (F0 m 18 ls [])) : W p l e room_1 s m #[Value.ref b] below meth c H locs cells slots Q (F0 m 465 ls []) := by
  obtain ⟨x1, hx1⟩ : ∃ z, z = xs (nI (4 * k) + 1).toNatClampNeg := ⟨_, rfl⟩
  obtain ⟨x2, hx2⟩ : ∃ z, z = xs (nI (4 * k) + 2).toNatClampNeg := ⟨_, rfl⟩
  obtain ⟨x3, hx3⟩ : ∃ z, z = xs (nI (4 * k) + 3).toNatClampNeg := ⟨_, rfl⟩
  refine lv_aload_n F.1 F.2.1 dL_law_465 rfl (lv_at hl 2 rfl) ?_
  refine lv_aload_n F.1 F.2.1 dL_law_466 rfl (lv_at hl 1 rfl) ?_
  refine lv_iload_n F.1 F.2.1 dL_law_467 rfl (lv_at hl 0 rfl) ?_
  refine lv_iconst (v := 1) F.1 F.2.1 dL_law_468 (by decide) ?_
  refine lv_iadd F.1 F.2.1 dL_law_469 ?_
  refine va_sld F.1 F.2.1 hX hbl hbA hS (i := (nI (4 * k)) + 1) (by rw [show nI (4 * k) + 1 = nI (4 * k + 1) from nI_add _ 1]; exact vp_in_nI (by omega) (by omega)) dL_law_470 ?_
  refine lv_topi (fun v1 ev1 => ?_)
  have fv1 : x1 = v1 := hx1.trans ev1.symm
  subst fv1
  refine w_calli F hP hS (c_X7_saves l D Y ad 176 hI _ 0 (by decide) f hs kn sl sv pd n hA x1 (60000 * (k : Int)) hok (by omega) (by omega)) (cwVm 1 F.2.2.2.2.1 (fun _ h => h) mw_533 mw_530 mw_531 mw_532 mw_2 rfl rfl ydX7_saves ⟨by decide, by decide⟩) (by decide) (clsA_at hA) rfl rfl hl.1 rfl (Nat.le_of_ble_eq_true rfl) dL_law_471 hcs (fun r7 C7 H locs hq7 hP hS => ?_)
  obtain ⟨hr7, hA7, hF7⟩ := hq7
  have hM7 := mdlA_same hM (fun j a b => hF7 j (by omega))
  refine lv_aload_n F.1 F.2.1 dL_law_474 rfl (lv_at hl 3 rfl) ?_
  refine lv_aload_n F.1 F.2.1 dL_law_475 rfl (lv_at hl 1 rfl) ?_
  refine lv_iload_n F.1 F.2.1 dL_law_476 rfl (lv_at hl 0 rfl) ?_
  refine lv_iconst (v := 1) F.1 F.2.1 dL_law_477 (by decide) ?_
  refine lv_iadd F.1 F.2.1 dL_law_478 ?_
  refine va_sld F.1 F.2.1 hX hbl hbA hS (i := (nI (4 * k)) + 1) (by rw [show nI (4 * k) + 1 = nI (4 * k + 1) from nI_add _ 1]; exact vp_in_nI (by omega) (by omega)) dL_law_479 ?_
  refine lv_topi (fun v2 ev2 => ?_)
  have fv2 : x1 = v2 := hx1.trans ev2.symm
  subst fv2
  obtain ⟨gr8, hg8⟩ := mdlA_at hM7
  refine w_calli F hP hS (cm_X8_saves l D Y ad 176 hI _ 170 (by decide) f hs kn sl sv pd n hM7 x1 (60000 * (k : Int)) hok (by omega) (by omega)) (cwVm 1 F.2.2.2.2.1 (fun _ h => h) mw_542 mw_539 mw_540 mw_541 mw_5 rfl rfl ydX8_saves ⟨by decide, by decide⟩) (by decide) hg8 rfl rfl hl.1 rfl (Nat.le_of_ble_eq_true rfl) dL_law_480 hcs (fun r8 C8 H locs hq8 hP hS => ?_)
  obtain ⟨hr8, hM8, hF8⟩ := hq8
  have hA8 := clsA_same hA7 (fun j a b => hF8 j (by omega))
  refine lv_icmp_eq (tgt := 682) F.1 F.2.1 dL_law_483 (by decide) (fun c3 => ?_) (fun c3 => False.elim (c3 (hr7.trans hr8.symm)))
  refine lv_iinc (v := (nI (4 * k)) + 4) (lv' := [(3, .int ((nI (4 * k)) + 4)), (0, .ref (b)), (1, .ref (ad 0)), (2, .ref (ad 170))]) F.1 F.2.1 dL_law_682 hl (k := 0) rfl rfl (by decide) rfl (fun ls hl => ?_)
  refine lv_goto (tgt := 18) F.1 F.2.1 dL_law_685 (by decide) ?_
  exact kb _ _ _ _ hP hS (by rw [show nI (4 * (k + 1)) = nI (4 * k) + 4 from (nI_add (4 * k) 4).symm]; exact lv_sub hl [0, 1, 2, 3] rfl) ⟨f, hs, kn, sl, sv, pd, n, hA8, hM8, up1 hok, (fun i hi => up1 (hokh i hi)), (fun i hi => up1 (hoks i hi))⟩
set_option maxRecDepth 20000 in
set_option maxHeartbeats 2000000 in
theorem law_case_14 {p : Program} {l : Launch} {e : Env} {s : State} {m : MethodId} {below : List Frame} {meth : Method} {c : Code} {D : va_G} {Y : Nat → ClassId} {ad : Nat → Nat} (hI : wI ad 176) {b L : Nat} {xs : Nat → Int32} (hL : L ≤ 2048) (F : wFix p s m c #[Value.ref b] cL_law RL 4 D Y ad 176) (hX : va_X b L xs s s.heap) (hbl : b < s.heap.size) (hbA : ¬ wA ad 176 b) {cells slots : Nat} (hcs : cells ≤ room_1.cells ∧ slots ≤ room_1.slots) {Q : State → Prop} {k : Nat} (hk : k ≤ 512) (hkL : 4 * k + 4 ≤ L) {H : Heap} {locs : List Loc} {C : Nat → va_E} (hP : wP D ad 176 C H) (hS : va_S (wA ad 176) s.heap H locs) {ls : Array Slot} (hl : lv_has ls 4 [(3, .int (nI (4 * k))), (0, .ref b), (1, .ref (ad 0)), (2, .ref (ad 170))]) {f : Nat → Int32} {hs : Nat → Nat → Int32} {kn : Nat} {sl : Nat → Nat → Int32} {sv pd : Nat → Int32} {n : Nat} (hA : clsA Y ad C 0 f hs kn sl sv pd n) (hM : mdlA Y ad C 170 f hs kn sl sv pd n) (hok : okRow (60000 * k) f) (hokh : ∀ i, i < kn → okRow (60000 * k) (hs i)) (hoks : ∀ i, i < 2 → okRow (60000 * k) (sl i)) (kb : ∀ (H : Heap) (locs : List Loc) (C : Nat → va_E) (ls : Array Slot), wP D ad 176 C H → va_S (wA ad 176) s.heap H locs → lv_has ls 4 [(3, .int (nI (4 * (k + 1)))), (0, .ref b), (1, .ref (ad 0)), (2, .ref (ad 170))] → LINV Y ad C (k + 1) → W p l e room_1 s m #[Value.ref b] below meth c H locs cells slots Q (F0 m 18 ls [])) : W p l e room_1 s m #[Value.ref b] below meth c H locs cells slots Q (F0 m 488 ls []) := by
  obtain ⟨x1, hx1⟩ : ∃ z, z = xs (nI (4 * k) + 1).toNatClampNeg := ⟨_, rfl⟩
  obtain ⟨x2, hx2⟩ : ∃ z, z = xs (nI (4 * k) + 2).toNatClampNeg := ⟨_, rfl⟩
  obtain ⟨x3, hx3⟩ : ∃ z, z = xs (nI (4 * k) + 3).toNatClampNeg := ⟨_, rfl⟩
  refine lv_aload_n F.1 F.2.1 dL_law_488 rfl (lv_at hl 2 rfl) ?_
  refine lv_aload_n F.1 F.2.1 dL_law_489 rfl (lv_at hl 1 rfl) ?_
  refine lv_iload_n F.1 F.2.1 dL_law_490 rfl (lv_at hl 0 rfl) ?_
  refine lv_iconst (v := 1) F.1 F.2.1 dL_law_491 (by decide) ?_
  refine lv_iadd F.1 F.2.1 dL_law_492 ?_
  refine va_sld F.1 F.2.1 hX hbl hbA hS (i := (nI (4 * k)) + 1) (by rw [show nI (4 * k) + 1 = nI (4 * k + 1) from nI_add _ 1]; exact vp_in_nI (by omega) (by omega)) dL_law_493 ?_
  refine lv_topi (fun v1 ev1 => ?_)
  have fv1 : x1 = v1 := hx1.trans ev1.symm
  subst fv1
  refine lv_aload_n F.1 F.2.1 dL_law_494 rfl (lv_at hl 1 rfl) ?_
  refine lv_iload_n F.1 F.2.1 dL_law_495 rfl (lv_at hl 0 rfl) ?_
  refine lv_iconst (v := 2) F.1 F.2.1 dL_law_496 (by decide) ?_
  refine lv_iadd F.1 F.2.1 dL_law_497 ?_
  refine va_sld F.1 F.2.1 hX hbl hbA hS (i := (nI (4 * k)) + 2) (by rw [show nI (4 * k) + 2 = nI (4 * k + 2) from nI_add _ 2]; exact vp_in_nI (by omega) (by omega)) dL_law_498 ?_
  refine lv_topi (fun v2 ev2 => ?_)
  have fv2 : x2 = v2 := hx2.trans ev2.symm
  subst fv2
  refine lv_aload_n F.1 F.2.1 dL_law_499 rfl (lv_at hl 1 rfl) ?_
  refine lv_iload_n F.1 F.2.1 dL_law_500 rfl (lv_at hl 0 rfl) ?_
  refine lv_iconst (v := 3) F.1 F.2.1 dL_law_501 (by decide) ?_
  refine lv_iadd F.1 F.2.1 dL_law_502 ?_
  refine va_sld F.1 F.2.1 hX hbl hbA hS (i := (nI (4 * k)) + 3) (by rw [show nI (4 * k) + 3 = nI (4 * k + 3) from nI_add _ 3]; exact vp_in_nI (by omega) (by omega)) dL_law_503 ?_
  refine lv_topi (fun v3 ev3 => ?_)
  have fv3 : x3 = v3 := hx3.trans ev3.symm
  subst fv3
  refine w_calli F hP hS (c_X7_traced l D Y ad 176 hI _ 0 (by decide) f hs kn sl sv pd n hA x1 x2 x3 (60000 * (k : Int)) hok (by omega) (by omega)) (cwVm 3 F.2.2.2.2.1 (fun _ h => h) mw_546 mw_543 mw_544 mw_545 mw_2 rfl rfl ydX7_traced ⟨by decide, by decide⟩) (by decide) (clsA_at hA) rfl rfl hl.1 rfl (Nat.le_of_ble_eq_true rfl) dL_law_504 hcs (fun r7 C7 H locs hq7 hP hS => ?_)
  obtain ⟨hr7, hA7, hF7⟩ := hq7
  have hM7 := mdlA_same hM (fun j a b => hF7 j (by omega))
  refine lv_aload_n F.1 F.2.1 dL_law_507 rfl (lv_at hl 3 rfl) ?_
  refine lv_aload_n F.1 F.2.1 dL_law_508 rfl (lv_at hl 1 rfl) ?_
  refine lv_iload_n F.1 F.2.1 dL_law_509 rfl (lv_at hl 0 rfl) ?_
  refine lv_iconst (v := 1) F.1 F.2.1 dL_law_510 (by decide) ?_
  refine lv_iadd F.1 F.2.1 dL_law_511 ?_
  refine va_sld F.1 F.2.1 hX hbl hbA hS (i := (nI (4 * k)) + 1) (by rw [show nI (4 * k) + 1 = nI (4 * k + 1) from nI_add _ 1]; exact vp_in_nI (by omega) (by omega)) dL_law_512 ?_
  refine lv_topi (fun v4 ev4 => ?_)
  have fv4 : x1 = v4 := hx1.trans ev4.symm
  subst fv4
  refine lv_aload_n F.1 F.2.1 dL_law_513 rfl (lv_at hl 1 rfl) ?_
  refine lv_iload_n F.1 F.2.1 dL_law_514 rfl (lv_at hl 0 rfl) ?_
  refine lv_iconst (v := 2) F.1 F.2.1 dL_law_515 (by decide) ?_
  refine lv_iadd F.1 F.2.1 dL_law_516 ?_
  refine va_sld F.1 F.2.1 hX hbl hbA hS (i := (nI (4 * k)) + 2) (by rw [show nI (4 * k) + 2 = nI (4 * k + 2) from nI_add _ 2]; exact vp_in_nI (by omega) (by omega)) dL_law_517 ?_
  refine lv_topi (fun v5 ev5 => ?_)
  have fv5 : x2 = v5 := hx2.trans ev5.symm
  subst fv5
  refine lv_aload_n F.1 F.2.1 dL_law_518 rfl (lv_at hl 1 rfl) ?_
  refine lv_iload_n F.1 F.2.1 dL_law_519 rfl (lv_at hl 0 rfl) ?_
  refine lv_iconst (v := 3) F.1 F.2.1 dL_law_520 (by decide) ?_
  refine lv_iadd F.1 F.2.1 dL_law_521 ?_
  refine va_sld F.1 F.2.1 hX hbl hbA hS (i := (nI (4 * k)) + 3) (by rw [show nI (4 * k) + 3 = nI (4 * k + 3) from nI_add _ 3]; exact vp_in_nI (by omega) (by omega)) dL_law_522 ?_
  refine lv_topi (fun v6 ev6 => ?_)
  have fv6 : x3 = v6 := hx3.trans ev6.symm
  subst fv6
  obtain ⟨gr8, hg8⟩ := mdlA_at hM7
  refine w_calli F hP hS (cm_X8_traced l D Y ad 176 hI _ 170 (by decide) f hs kn sl sv pd n hM7 x1 x2 x3 (60000 * (k : Int)) hok (by omega) (by omega)) (cwVm 3 F.2.2.2.2.1 (fun _ h => h) mw_550 mw_547 mw_548 mw_549 mw_5 rfl rfl ydX8_traced ⟨by decide, by decide⟩) (by decide) hg8 rfl rfl hl.1 rfl (Nat.le_of_ble_eq_true rfl) dL_law_523 hcs (fun r8 C8 H locs hq8 hP hS => ?_)
  obtain ⟨hr8, hM8, hF8⟩ := hq8
  have hA8 := clsA_same hA7 (fun j a b => hF8 j (by omega))
  refine lv_icmp_eq (tgt := 682) F.1 F.2.1 dL_law_526 (by decide) (fun c7 => ?_) (fun c7 => False.elim (c7 (hr7.trans hr8.symm)))
  refine lv_iinc (v := (nI (4 * k)) + 4) (lv' := [(3, .int ((nI (4 * k)) + 4)), (0, .ref (b)), (1, .ref (ad 0)), (2, .ref (ad 170))]) F.1 F.2.1 dL_law_682 hl (k := 0) rfl rfl (by decide) rfl (fun ls hl => ?_)
  refine lv_goto (tgt := 18) F.1 F.2.1 dL_law_685 (by decide) ?_
  exact kb _ _ _ _ hP hS (by rw [show nI (4 * (k + 1)) = nI (4 * k) + 4 from (nI_add (4 * k) 4).symm]; exact lv_sub hl [0, 1, 2, 3] rfl) ⟨f, hs, kn, sl, sv, pd, n, hA8, hM8, up1 hok, (fun i hi => up1 (hokh i hi)), (fun i hi => up1 (hoks i hi))⟩
set_option maxRecDepth 20000 in
set_option maxHeartbeats 2000000 in
theorem law_case_15 {p : Program} {l : Launch} {e : Env} {s : State} {m : MethodId} {below : List Frame} {meth : Method} {c : Code} {D : va_G} {Y : Nat → ClassId} {ad : Nat → Nat} (hI : wI ad 176) {b L : Nat} {xs : Nat → Int32} (hL : L ≤ 2048) (F : wFix p s m c #[Value.ref b] cL_law RL 4 D Y ad 176) (hX : va_X b L xs s s.heap) (hbl : b < s.heap.size) (hbA : ¬ wA ad 176 b) {cells slots : Nat} (hcs : cells ≤ room_1.cells ∧ slots ≤ room_1.slots) {Q : State → Prop} {k : Nat} (hk : k ≤ 512) (hkL : 4 * k + 4 ≤ L) {H : Heap} {locs : List Loc} {C : Nat → va_E} (hP : wP D ad 176 C H) (hS : va_S (wA ad 176) s.heap H locs) {ls : Array Slot} (hl : lv_has ls 4 [(3, .int (nI (4 * k))), (0, .ref b), (1, .ref (ad 0)), (2, .ref (ad 170))]) {f : Nat → Int32} {hs : Nat → Nat → Int32} {kn : Nat} {sl : Nat → Nat → Int32} {sv pd : Nat → Int32} {n : Nat} (hA : clsA Y ad C 0 f hs kn sl sv pd n) (hM : mdlA Y ad C 170 f hs kn sl sv pd n) (hok : okRow (60000 * k) f) (hokh : ∀ i, i < kn → okRow (60000 * k) (hs i)) (hoks : ∀ i, i < 2 → okRow (60000 * k) (sl i)) (kb : ∀ (H : Heap) (locs : List Loc) (C : Nat → va_E) (ls : Array Slot), wP D ad 176 C H → va_S (wA ad 176) s.heap H locs → lv_has ls 4 [(3, .int (nI (4 * (k + 1)))), (0, .ref b), (1, .ref (ad 0)), (2, .ref (ad 170))] → LINV Y ad C (k + 1) → W p l e room_1 s m #[Value.ref b] below meth c H locs cells slots Q (F0 m 18 ls [])) : W p l e room_1 s m #[Value.ref b] below meth c H locs cells slots Q (F0 m 531 ls []) := by
  obtain ⟨x1, hx1⟩ : ∃ z, z = xs (nI (4 * k) + 1).toNatClampNeg := ⟨_, rfl⟩
  obtain ⟨x2, hx2⟩ : ∃ z, z = xs (nI (4 * k) + 2).toNatClampNeg := ⟨_, rfl⟩
  obtain ⟨x3, hx3⟩ : ∃ z, z = xs (nI (4 * k) + 3).toNatClampNeg := ⟨_, rfl⟩
  refine lv_aload_n F.1 F.2.1 dL_law_531 rfl (lv_at hl 2 rfl) ?_
  refine lv_aload_n F.1 F.2.1 dL_law_532 rfl (lv_at hl 1 rfl) ?_
  refine lv_iload_n F.1 F.2.1 dL_law_533 rfl (lv_at hl 0 rfl) ?_
  refine lv_iconst (v := 1) F.1 F.2.1 dL_law_534 (by decide) ?_
  refine lv_iadd F.1 F.2.1 dL_law_535 ?_
  refine va_sld F.1 F.2.1 hX hbl hbA hS (i := (nI (4 * k)) + 1) (by rw [show nI (4 * k) + 1 = nI (4 * k + 1) from nI_add _ 1]; exact vp_in_nI (by omega) (by omega)) dL_law_536 ?_
  refine lv_topi (fun v1 ev1 => ?_)
  have fv1 : x1 = v1 := hx1.trans ev1.symm
  subst fv1
  refine lv_i2l F.1 F.2.1 dL_law_537 rfl ?_
  refine lv_bipush (v := 32) F.1 F.2.1 dL_law_538 (by decide) ?_
  refine lv_lshl F.1 F.2.1 dL_law_540 rfl ?_
  refine lv_aload_n F.1 F.2.1 dL_law_541 rfl (lv_at hl 1 rfl) ?_
  refine lv_iload_n F.1 F.2.1 dL_law_542 rfl (lv_at hl 0 rfl) ?_
  refine lv_iconst (v := 2) F.1 F.2.1 dL_law_543 (by decide) ?_
  refine lv_iadd F.1 F.2.1 dL_law_544 ?_
  refine va_sld F.1 F.2.1 hX hbl hbA hS (i := (nI (4 * k)) + 2) (by rw [show nI (4 * k) + 2 = nI (4 * k + 2) from nI_add _ 2]; exact vp_in_nI (by omega) (by omega)) dL_law_545 ?_
  refine lv_topi (fun v2 ev2 => ?_)
  have fv2 : x2 = v2 := hx2.trans ev2.symm
  subst fv2
  refine lv_i2l F.1 F.2.1 dL_law_546 rfl ?_
  refine lv_ldc2 F.1 F.2.1 F.2.2.2.1 (F.2.2.2.2.1 _ mw_6) dL_law_547 ?_
  refine lv_land F.1 F.2.1 dL_law_550 ?_
  refine lv_lor F.1 F.2.1 dL_law_551 ?_
  refine lv_topl (fun ch1 ech1 => ?_)
  refine w_calli F hP hS (c_X7_put l D Y ad 176 hI _ 0 (by decide) f hs kn sl sv pd n hA ch1) (cwVm 1 F.2.2.2.2.1 (fun _ h => h) mw_554 mw_551 mw_552 mw_553 mw_2 rfl rfl ydX7_put ⟨by decide, by decide⟩) (by decide) (clsA_at hA) rfl rfl hl.1 rfl (Nat.le_of_ble_eq_true rfl) dL_law_552 hcs (fun r7 C7 H locs hq7 hP hS => ?_)
  by_cases he : T_pute ch1 n = 0
  · obtain ⟨hr7, hA7, hF7⟩ := hq7.1 he
    have hM7 := mdlA_same hM (fun j a b => hF7 j (by omega))
    refine lv_aload_n F.1 F.2.1 dL_law_555 rfl (lv_at hl 3 rfl) ?_
    refine lv_aload_n F.1 F.2.1 dL_law_556 rfl (lv_at hl 1 rfl) ?_
    refine lv_iload_n F.1 F.2.1 dL_law_557 rfl (lv_at hl 0 rfl) ?_
    refine lv_iconst (v := 1) F.1 F.2.1 dL_law_558 (by decide) ?_
    refine lv_iadd F.1 F.2.1 dL_law_559 ?_
    refine va_sld F.1 F.2.1 hX hbl hbA hS (i := (nI (4 * k)) + 1) (by rw [show nI (4 * k) + 1 = nI (4 * k + 1) from nI_add _ 1]; exact vp_in_nI (by omega) (by omega)) dL_law_560 ?_
    refine lv_topi (fun v3 ev3 => ?_)
    have fv3 : x1 = v3 := hx1.trans ev3.symm
    subst fv3
    refine lv_i2l F.1 F.2.1 dL_law_561 rfl ?_
    refine lv_bipush (v := 32) F.1 F.2.1 dL_law_562 (by decide) ?_
    refine lv_lshl F.1 F.2.1 dL_law_564 rfl ?_
    refine lv_aload_n F.1 F.2.1 dL_law_565 rfl (lv_at hl 1 rfl) ?_
    refine lv_iload_n F.1 F.2.1 dL_law_566 rfl (lv_at hl 0 rfl) ?_
    refine lv_iconst (v := 2) F.1 F.2.1 dL_law_567 (by decide) ?_
    refine lv_iadd F.1 F.2.1 dL_law_568 ?_
    refine va_sld F.1 F.2.1 hX hbl hbA hS (i := (nI (4 * k)) + 2) (by rw [show nI (4 * k) + 2 = nI (4 * k + 2) from nI_add _ 2]; exact vp_in_nI (by omega) (by omega)) dL_law_569 ?_
    refine lv_topi (fun v4 ev4 => ?_)
    have fv4 : x2 = v4 := hx2.trans ev4.symm
    subst fv4
    refine lv_i2l F.1 F.2.1 dL_law_570 rfl ?_
    refine lv_ldc2 F.1 F.2.1 F.2.2.2.1 (F.2.2.2.2.1 _ mw_6) dL_law_571 ?_
    refine lv_land F.1 F.2.1 dL_law_574 ?_
    refine lv_lor F.1 F.2.1 dL_law_575 ?_
    refine lv_topl (fun ch2 ech2 => ?_)
    have ech : ch1 = ch2 := ech1.trans ech2.symm
    subst ech
    obtain ⟨gr8, hg8⟩ := mdlA_at hM7
    refine w_calli F hP hS (cm_X8_put l D Y ad 176 hI _ 170 (by decide) f hs kn sl sv pd n hM7 ch1) (cwVm 1 F.2.2.2.2.1 (fun _ h => h) mw_569 mw_566 mw_567 mw_568 mw_5 rfl rfl ydX8_put ⟨by decide, by decide⟩) (by decide) hg8 rfl rfl hl.1 rfl (Nat.le_of_ble_eq_true rfl) dL_law_576 hcs (fun r8 C8 H locs hq8 hP hS => ?_)
    obtain ⟨hr8, hM8, hF8⟩ := hq8.1 he
    have hA8 := clsA_same hA7 (fun j a b => hF8 j (by omega))
    refine lv_icmp_eq (tgt := 682) F.1 F.2.1 dL_law_579 (by decide) (fun c5 => ?_) (fun c5 => False.elim (c5 (hr7.trans hr8.symm)))
    refine lv_iinc (v := (nI (4 * k)) + 4) (lv' := [(3, .int ((nI (4 * k)) + 4)), (0, .ref (b)), (1, .ref (ad 0)), (2, .ref (ad 170))]) F.1 F.2.1 dL_law_682 hl (k := 0) rfl rfl (by decide) rfl (fun ls hl => ?_)
    refine lv_goto (tgt := 18) F.1 F.2.1 dL_law_685 (by decide) ?_
    exact kb _ _ _ _ hP hS (by rw [show nI (4 * (k + 1)) = nI (4 * k) + 4 from (nI_add (4 * k) 4).symm]; exact lv_sub hl [0, 1, 2, 3] rfl) ⟨f, hs, kn, sl, sv, (APP pd ch1 n (M_cnt ch1).toNatClampNeg (M_cnt ch1).toNatClampNeg), (n + (M_cnt ch1).toNatClampNeg), hA8, hM8, (up1 hok), (fun i hi => up1 (hokh i hi)), (fun i hi => up1 (hoks i hi))⟩
  · obtain ⟨hr7, hw7⟩ := hq7.2 he; rw [hw7] at hP
    refine lv_aload_n F.1 F.2.1 dL_law_555 rfl (lv_at hl 3 rfl) ?_
    refine lv_aload_n F.1 F.2.1 dL_law_556 rfl (lv_at hl 1 rfl) ?_
    refine lv_iload_n F.1 F.2.1 dL_law_557 rfl (lv_at hl 0 rfl) ?_
    refine lv_iconst (v := 1) F.1 F.2.1 dL_law_558 (by decide) ?_
    refine lv_iadd F.1 F.2.1 dL_law_559 ?_
    refine va_sld F.1 F.2.1 hX hbl hbA hS (i := (nI (4 * k)) + 1) (by rw [show nI (4 * k) + 1 = nI (4 * k + 1) from nI_add _ 1]; exact vp_in_nI (by omega) (by omega)) dL_law_560 ?_
    refine lv_topi (fun v6 ev6 => ?_)
    have fv6 : x1 = v6 := hx1.trans ev6.symm
    subst fv6
    refine lv_i2l F.1 F.2.1 dL_law_561 rfl ?_
    refine lv_bipush (v := 32) F.1 F.2.1 dL_law_562 (by decide) ?_
    refine lv_lshl F.1 F.2.1 dL_law_564 rfl ?_
    refine lv_aload_n F.1 F.2.1 dL_law_565 rfl (lv_at hl 1 rfl) ?_
    refine lv_iload_n F.1 F.2.1 dL_law_566 rfl (lv_at hl 0 rfl) ?_
    refine lv_iconst (v := 2) F.1 F.2.1 dL_law_567 (by decide) ?_
    refine lv_iadd F.1 F.2.1 dL_law_568 ?_
    refine va_sld F.1 F.2.1 hX hbl hbA hS (i := (nI (4 * k)) + 2) (by rw [show nI (4 * k) + 2 = nI (4 * k + 2) from nI_add _ 2]; exact vp_in_nI (by omega) (by omega)) dL_law_569 ?_
    refine lv_topi (fun v7 ev7 => ?_)
    have fv7 : x2 = v7 := hx2.trans ev7.symm
    subst fv7
    refine lv_i2l F.1 F.2.1 dL_law_570 rfl ?_
    refine lv_ldc2 F.1 F.2.1 F.2.2.2.1 (F.2.2.2.2.1 _ mw_6) dL_law_571 ?_
    refine lv_land F.1 F.2.1 dL_law_574 ?_
    refine lv_lor F.1 F.2.1 dL_law_575 ?_
    refine lv_topl (fun ch2 ech2 => ?_)
    have ech : ch1 = ch2 := ech1.trans ech2.symm
    subst ech
    obtain ⟨gr8, hg8⟩ := mdlA_at hM
    refine w_calli F hP hS (cm_X8_put l D Y ad 176 hI _ 170 (by decide) f hs kn sl sv pd n hM ch1) (cwVm 1 F.2.2.2.2.1 (fun _ h => h) mw_569 mw_566 mw_567 mw_568 mw_5 rfl rfl ydX8_put ⟨by decide, by decide⟩) (by decide) hg8 rfl rfl hl.1 rfl (Nat.le_of_ble_eq_true rfl) dL_law_576 hcs (fun r8 C8 H locs hq8 hP hS => ?_)
    obtain ⟨hr8, hM8, hF8⟩ := hq8.2 he
    have hA8 := clsA_same hA (fun j a b => hF8 j (by omega))
    refine lv_icmp_eq (tgt := 682) F.1 F.2.1 dL_law_579 (by decide) (fun c8 => ?_) (fun c8 => False.elim (c8 (hr7.trans hr8.symm)))
    refine lv_iinc (v := (nI (4 * k)) + 4) (lv' := [(3, .int ((nI (4 * k)) + 4)), (0, .ref (b)), (1, .ref (ad 0)), (2, .ref (ad 170))]) F.1 F.2.1 dL_law_682 hl (k := 0) rfl rfl (by decide) rfl (fun ls hl => ?_)
    refine lv_goto (tgt := 18) F.1 F.2.1 dL_law_685 (by decide) ?_
    exact kb _ _ _ _ hP hS (by rw [show nI (4 * (k + 1)) = nI (4 * k) + 4 from (nI_add (4 * k) 4).symm]; exact lv_sub hl [0, 1, 2, 3] rfl) ⟨f, hs, kn, sl, sv, pd, n, hA8, hM8, up1 hok, (fun i hi => up1 (hokh i hi)), (fun i hi => up1 (hoks i hi))⟩
set_option maxRecDepth 20000 in
set_option maxHeartbeats 2000000 in
theorem law_case_16 {p : Program} {l : Launch} {e : Env} {s : State} {m : MethodId} {below : List Frame} {meth : Method} {c : Code} {D : va_G} {Y : Nat → ClassId} {ad : Nat → Nat} (hI : wI ad 176) {b L : Nat} {xs : Nat → Int32} (hL : L ≤ 2048) (F : wFix p s m c #[Value.ref b] cL_law RL 4 D Y ad 176) (hX : va_X b L xs s s.heap) (hbl : b < s.heap.size) (hbA : ¬ wA ad 176 b) {cells slots : Nat} (hcs : cells ≤ room_1.cells ∧ slots ≤ room_1.slots) {Q : State → Prop} {k : Nat} (hk : k ≤ 512) (hkL : 4 * k + 4 ≤ L) {H : Heap} {locs : List Loc} {C : Nat → va_E} (hP : wP D ad 176 C H) (hS : va_S (wA ad 176) s.heap H locs) {ls : Array Slot} (hl : lv_has ls 4 [(3, .int (nI (4 * k))), (0, .ref b), (1, .ref (ad 0)), (2, .ref (ad 170))]) {f : Nat → Int32} {hs : Nat → Nat → Int32} {kn : Nat} {sl : Nat → Nat → Int32} {sv pd : Nat → Int32} {n : Nat} (hA : clsA Y ad C 0 f hs kn sl sv pd n) (hM : mdlA Y ad C 170 f hs kn sl sv pd n) (hok : okRow (60000 * k) f) (hokh : ∀ i, i < kn → okRow (60000 * k) (hs i)) (hoks : ∀ i, i < 2 → okRow (60000 * k) (sl i)) (kb : ∀ (H : Heap) (locs : List Loc) (C : Nat → va_E) (ls : Array Slot), wP D ad 176 C H → va_S (wA ad 176) s.heap H locs → lv_has ls 4 [(3, .int (nI (4 * (k + 1)))), (0, .ref b), (1, .ref (ad 0)), (2, .ref (ad 170))] → LINV Y ad C (k + 1) → W p l e room_1 s m #[Value.ref b] below meth c H locs cells slots Q (F0 m 18 ls [])) : W p l e room_1 s m #[Value.ref b] below meth c H locs cells slots Q (F0 m 584 ls []) := by
  obtain ⟨x1, hx1⟩ : ∃ z, z = xs (nI (4 * k) + 1).toNatClampNeg := ⟨_, rfl⟩
  obtain ⟨x2, hx2⟩ : ∃ z, z = xs (nI (4 * k) + 2).toNatClampNeg := ⟨_, rfl⟩
  obtain ⟨x3, hx3⟩ : ∃ z, z = xs (nI (4 * k) + 3).toNatClampNeg := ⟨_, rfl⟩
  refine lv_aload_n F.1 F.2.1 dL_law_584 rfl (lv_at hl 2 rfl) ?_
  refine w_calli F hP hS (c_X7_wipe l D Y ad 176 hI _ 0 (by decide) f hs kn sl sv pd n hA ) (cwVm 0 F.2.2.2.2.1 (fun _ h => h) mw_574 mw_571 mw_572 mw_573 mw_2 rfl rfl ydX7_wipe ⟨by decide, by decide⟩) (by decide) (clsA_at hA) rfl rfl hl.1 rfl (Nat.le_of_ble_eq_true rfl) dL_law_585 hcs (fun r7 C7 H locs hq7 hP hS => ?_)
  obtain ⟨hr7, hA7, hF7⟩ := hq7
  have hM7 := mdlA_same hM (fun j a b => hF7 j (by omega))
  refine lv_aload_n F.1 F.2.1 dL_law_588 rfl (lv_at hl 3 rfl) ?_
  obtain ⟨gr8, hg8⟩ := mdlA_at hM7
  refine w_calli F hP hS (cm_X8_wipe l D Y ad 176 hI _ 170 (by decide) f hs kn sl sv pd n hM7 ) (cwVm 0 F.2.2.2.2.1 (fun _ h => h) mw_582 mw_579 mw_580 mw_581 mw_5 rfl rfl ydX8_wipe ⟨by decide, by decide⟩) (by decide) hg8 rfl rfl hl.1 rfl (Nat.le_of_ble_eq_true rfl) dL_law_589 hcs (fun r8 C8 H locs hq8 hP hS => ?_)
  obtain ⟨hr8, hM8, hF8⟩ := hq8
  have hA8 := clsA_same hA7 (fun j a b => hF8 j (by omega))
  refine lv_icmp_eq (tgt := 682) F.1 F.2.1 dL_law_592 (by decide) (fun c1 => ?_) (fun c1 => False.elim (c1 (hr7.trans hr8.symm)))
  refine lv_iinc (v := (nI (4 * k)) + 4) (lv' := [(3, .int ((nI (4 * k)) + 4)), (0, .ref (b)), (1, .ref (ad 0)), (2, .ref (ad 170))]) F.1 F.2.1 dL_law_682 hl (k := 0) rfl rfl (by decide) rfl (fun ls hl => ?_)
  refine lv_goto (tgt := 18) F.1 F.2.1 dL_law_685 (by decide) ?_
  exact kb _ _ _ _ hP hS (by rw [show nI (4 * (k + 1)) = nI (4 * k) + 4 from (nI_add (4 * k) 4).symm]; exact lv_sub hl [0, 1, 2, 3] rfl) ⟨f, hs, kn, sl, sv, pd, 0, hA8, hM8, up1 hok, (fun i hi => up1 (hokh i hi)), (fun i hi => up1 (hoks i hi))⟩
set_option maxRecDepth 20000 in
set_option maxHeartbeats 2000000 in
theorem law_case_17 {p : Program} {l : Launch} {e : Env} {s : State} {m : MethodId} {below : List Frame} {meth : Method} {c : Code} {D : va_G} {Y : Nat → ClassId} {ad : Nat → Nat} (hI : wI ad 176) {b L : Nat} {xs : Nat → Int32} (hL : L ≤ 2048) (F : wFix p s m c #[Value.ref b] cL_law RL 4 D Y ad 176) (hX : va_X b L xs s s.heap) (hbl : b < s.heap.size) (hbA : ¬ wA ad 176 b) {cells slots : Nat} (hcs : cells ≤ room_1.cells ∧ slots ≤ room_1.slots) {Q : State → Prop} {k : Nat} (hk : k ≤ 512) (hkL : 4 * k + 4 ≤ L) {H : Heap} {locs : List Loc} {C : Nat → va_E} (hP : wP D ad 176 C H) (hS : va_S (wA ad 176) s.heap H locs) {ls : Array Slot} (hl : lv_has ls 4 [(3, .int (nI (4 * k))), (0, .ref b), (1, .ref (ad 0)), (2, .ref (ad 170))]) {f : Nat → Int32} {hs : Nat → Nat → Int32} {kn : Nat} {sl : Nat → Nat → Int32} {sv pd : Nat → Int32} {n : Nat} (hA : clsA Y ad C 0 f hs kn sl sv pd n) (hM : mdlA Y ad C 170 f hs kn sl sv pd n) (hok : okRow (60000 * k) f) (hokh : ∀ i, i < kn → okRow (60000 * k) (hs i)) (hoks : ∀ i, i < 2 → okRow (60000 * k) (sl i)) (kb : ∀ (H : Heap) (locs : List Loc) (C : Nat → va_E) (ls : Array Slot), wP D ad 176 C H → va_S (wA ad 176) s.heap H locs → lv_has ls 4 [(3, .int (nI (4 * (k + 1)))), (0, .ref b), (1, .ref (ad 0)), (2, .ref (ad 170))] → LINV Y ad C (k + 1) → W p l e room_1 s m #[Value.ref b] below meth c H locs cells slots Q (F0 m 18 ls [])) : W p l e room_1 s m #[Value.ref b] below meth c H locs cells slots Q (F0 m 597 ls []) := by
  obtain ⟨x1, hx1⟩ : ∃ z, z = xs (nI (4 * k) + 1).toNatClampNeg := ⟨_, rfl⟩
  obtain ⟨x2, hx2⟩ : ∃ z, z = xs (nI (4 * k) + 2).toNatClampNeg := ⟨_, rfl⟩
  obtain ⟨x3, hx3⟩ : ∃ z, z = xs (nI (4 * k) + 3).toNatClampNeg := ⟨_, rfl⟩
  refine lv_aload_n F.1 F.2.1 dL_law_597 rfl (lv_at hl 2 rfl) ?_
  refine w_calli F hP hS (c_X7_fault l D Y ad 176 hI _ 0 (by decide) f hs kn sl sv pd n hA ) (cwVm 0 F.2.2.2.2.1 (fun _ h => h) mw_586 mw_583 mw_584 mw_585 mw_2 rfl rfl ydX7_fault ⟨by decide, by decide⟩) (by decide) (clsA_at hA) rfl rfl hl.1 rfl (Nat.le_of_ble_eq_true rfl) dL_law_598 hcs (fun r7 C7 H locs hq7 hP hS => ?_)
  obtain ⟨hr7, hA7, hF7⟩ := hq7
  have hM7 := mdlA_same hM (fun j a b => hF7 j (by omega))
  refine lv_aload_n F.1 F.2.1 dL_law_601 rfl (lv_at hl 3 rfl) ?_
  obtain ⟨gr8, hg8⟩ := mdlA_at hM7
  refine w_calli F hP hS (cm_X8_fault l D Y ad 176 hI _ 170 (by decide) f hs kn sl sv pd n hM7 ) (cwVm 0 F.2.2.2.2.1 (fun _ h => h) mw_623 mw_620 mw_621 mw_622 mw_5 rfl rfl ydX8_fault ⟨by decide, by decide⟩) (by decide) hg8 rfl rfl hl.1 rfl (Nat.le_of_ble_eq_true rfl) dL_law_602 hcs (fun r8 C8 H locs hq8 hP hS => ?_)
  obtain ⟨hr8, hM8, hF8⟩ := hq8
  have hA8 := clsA_same hA7 (fun j a b => hF8 j (by omega))
  refine lv_icmp_eq (tgt := 682) F.1 F.2.1 dL_law_605 (by decide) (fun c1 => ?_) (fun c1 => False.elim (c1 (hr7.trans hr8.symm)))
  refine lv_iinc (v := (nI (4 * k)) + 4) (lv' := [(3, .int ((nI (4 * k)) + 4)), (0, .ref (b)), (1, .ref (ad 0)), (2, .ref (ad 170))]) F.1 F.2.1 dL_law_682 hl (k := 0) rfl rfl (by decide) rfl (fun ls hl => ?_)
  refine lv_goto (tgt := 18) F.1 F.2.1 dL_law_685 (by decide) ?_
  exact kb _ _ _ _ hP hS (by rw [show nI (4 * (k + 1)) = nI (4 * k) + 4 from (nI_add (4 * k) 4).symm]; exact lv_sub hl [0, 1, 2, 3] rfl) ⟨f, hs, kn, sl, sv, pd, n, hA8, hM8, up1 hok, (fun i hi => up1 (hokh i hi)), (fun i hi => up1 (hoks i hi))⟩
set_option maxRecDepth 20000 in
set_option maxHeartbeats 2000000 in
theorem law_case_18 {p : Program} {l : Launch} {e : Env} {s : State} {m : MethodId} {below : List Frame} {meth : Method} {c : Code} {D : va_G} {Y : Nat → ClassId} {ad : Nat → Nat} (hI : wI ad 176) {b L : Nat} {xs : Nat → Int32} (hL : L ≤ 2048) (F : wFix p s m c #[Value.ref b] cL_law RL 4 D Y ad 176) (hX : va_X b L xs s s.heap) (hbl : b < s.heap.size) (hbA : ¬ wA ad 176 b) {cells slots : Nat} (hcs : cells ≤ room_1.cells ∧ slots ≤ room_1.slots) {Q : State → Prop} {k : Nat} (hk : k ≤ 512) (hkL : 4 * k + 4 ≤ L) {H : Heap} {locs : List Loc} {C : Nat → va_E} (hP : wP D ad 176 C H) (hS : va_S (wA ad 176) s.heap H locs) {ls : Array Slot} (hl : lv_has ls 4 [(3, .int (nI (4 * k))), (0, .ref b), (1, .ref (ad 0)), (2, .ref (ad 170))]) {f : Nat → Int32} {hs : Nat → Nat → Int32} {kn : Nat} {sl : Nat → Nat → Int32} {sv pd : Nat → Int32} {n : Nat} (hA : clsA Y ad C 0 f hs kn sl sv pd n) (hM : mdlA Y ad C 170 f hs kn sl sv pd n) (hok : okRow (60000 * k) f) (hokh : ∀ i, i < kn → okRow (60000 * k) (hs i)) (hoks : ∀ i, i < 2 → okRow (60000 * k) (sl i)) (kb : ∀ (H : Heap) (locs : List Loc) (C : Nat → va_E) (ls : Array Slot), wP D ad 176 C H → va_S (wA ad 176) s.heap H locs → lv_has ls 4 [(3, .int (nI (4 * (k + 1)))), (0, .ref b), (1, .ref (ad 0)), (2, .ref (ad 170))] → LINV Y ad C (k + 1) → W p l e room_1 s m #[Value.ref b] below meth c H locs cells slots Q (F0 m 18 ls [])) : W p l e room_1 s m #[Value.ref b] below meth c H locs cells slots Q (F0 m 610 ls []) := by
  obtain ⟨x1, hx1⟩ : ∃ z, z = xs (nI (4 * k) + 1).toNatClampNeg := ⟨_, rfl⟩
  obtain ⟨x2, hx2⟩ : ∃ z, z = xs (nI (4 * k) + 2).toNatClampNeg := ⟨_, rfl⟩
  obtain ⟨x3, hx3⟩ : ∃ z, z = xs (nI (4 * k) + 3).toNatClampNeg := ⟨_, rfl⟩
  refine lv_aload_n F.1 F.2.1 dL_law_610 rfl (lv_at hl 2 rfl) ?_
  refine w_calli F hP hS (c_X7_carryOut l D Y ad 176 hI _ 0 (by decide) f hs kn sl sv pd n hA (60000 * (k : Int)) (by omega) hok (by omega)) (cwVm 0 F.2.2.2.2.1 (fun _ h => h) mw_643 mw_640 mw_641 mw_642 mw_2 rfl rfl ydX7_carryOut ⟨by decide, by decide⟩) (by decide) (clsA_at hA) rfl rfl hl.1 rfl (Nat.le_of_ble_eq_true rfl) dL_law_611 hcs (fun r7 C7 H locs hq7 hP hS => ?_)
  by_cases he : F_fault pd n 80 0 = -6
  · obtain ⟨hr7, hA7, hF7⟩ := hq7.1 he
    have hM7 := mdlA_same hM (fun j a b => hF7 j (by omega))
    refine lv_aload_n F.1 F.2.1 dL_law_614 rfl (lv_at hl 3 rfl) ?_
    obtain ⟨gr8, hg8⟩ := mdlA_at hM7
    refine w_calli F hP hS (cm_X8_carryOut l D Y ad 176 hI _ 170 (by decide) f hs kn sl sv pd n hM7 (60000 * (k : Int)) hok (by omega) (by omega)) (cwVm 0 F.2.2.2.2.1 (fun _ h => h) mw_658 mw_655 mw_656 mw_657 mw_5 rfl rfl ydX8_carryOut ⟨by decide, by decide⟩) (by decide) hg8 rfl rfl hl.1 rfl (Nat.le_of_ble_eq_true rfl) dL_law_615 hcs (fun r8 C8 H locs hq8 hP hS => ?_)
    obtain ⟨hr8, hM8, hF8⟩ := hq8.1 he
    have hA8 := clsA_same hA7 (fun j a b => hF8 j (by omega))
    refine lv_icmp_eq (tgt := 682) F.1 F.2.1 dL_law_618 (by decide) (fun c1 => ?_) (fun c1 => False.elim (c1 (hr7.trans hr8.symm)))
    refine lv_iinc (v := (nI (4 * k)) + 4) (lv' := [(3, .int ((nI (4 * k)) + 4)), (0, .ref (b)), (1, .ref (ad 0)), (2, .ref (ad 170))]) F.1 F.2.1 dL_law_682 hl (k := 0) rfl rfl (by decide) rfl (fun ls hl => ?_)
    refine lv_goto (tgt := 18) F.1 F.2.1 dL_law_685 (by decide) ?_
    exact kb _ _ _ _ hP hS (by rw [show nI (4 * (k + 1)) = nI (4 * k) + 4 from (nI_add (4 * k) 4).symm]; exact lv_sub hl [0, 1, 2, 3] rfl) ⟨(T_out f pd n).1, (H_rec f hs kn), (K_rec kn), sl, sv, pd, 0, hA8, hM8, (okRow_mono (by omega) (okRow_co (B := 60000 * (k : Int)) 80 (by omega) (by omega) hok)), (rec_ok (clsA_kn hA) (up1 hok) (fun i hi => up1 (hokh i hi))), (fun i hi => up1 (hoks i hi))⟩
  · obtain ⟨hr7, hA7, hF7⟩ := hq7.2 he
    have hM7 := mdlA_same hM (fun j a b => hF7 j (by omega))
    refine lv_aload_n F.1 F.2.1 dL_law_614 rfl (lv_at hl 3 rfl) ?_
    obtain ⟨gr8, hg8⟩ := mdlA_at hM7
    refine w_calli F hP hS (cm_X8_carryOut l D Y ad 176 hI _ 170 (by decide) f hs kn sl sv pd n hM7 (60000 * (k : Int)) hok (by omega) (by omega)) (cwVm 0 F.2.2.2.2.1 (fun _ h => h) mw_658 mw_655 mw_656 mw_657 mw_5 rfl rfl ydX8_carryOut ⟨by decide, by decide⟩) (by decide) hg8 rfl rfl hl.1 rfl (Nat.le_of_ble_eq_true rfl) dL_law_615 hcs (fun r8 C8 H locs hq8 hP hS => ?_)
    obtain ⟨hr8, hM8, hF8⟩ := hq8.2 he
    have hA8 := clsA_same hA7 (fun j a b => hF8 j (by omega))
    refine lv_icmp_eq (tgt := 682) F.1 F.2.1 dL_law_618 (by decide) (fun c2 => ?_) (fun c2 => False.elim (c2 (hr7.trans hr8.symm)))
    refine lv_iinc (v := (nI (4 * k)) + 4) (lv' := [(3, .int ((nI (4 * k)) + 4)), (0, .ref (b)), (1, .ref (ad 0)), (2, .ref (ad 170))]) F.1 F.2.1 dL_law_682 hl (k := 0) rfl rfl (by decide) rfl (fun ls hl => ?_)
    refine lv_goto (tgt := 18) F.1 F.2.1 dL_law_685 (by decide) ?_
    exact kb _ _ _ _ hP hS (by rw [show nI (4 * (k + 1)) = nI (4 * k) + 4 from (nI_add (4 * k) 4).symm]; exact lv_sub hl [0, 1, 2, 3] rfl) ⟨f, hs, kn, sl, sv, pd, n, hA8, hM8, up1 hok, (fun i hi => up1 (hokh i hi)), (fun i hi => up1 (hoks i hi))⟩
set_option maxRecDepth 20000 in
set_option maxHeartbeats 2000000 in
theorem law_case_19 {p : Program} {l : Launch} {e : Env} {s : State} {m : MethodId} {below : List Frame} {meth : Method} {c : Code} {D : va_G} {Y : Nat → ClassId} {ad : Nat → Nat} (hI : wI ad 176) {b L : Nat} {xs : Nat → Int32} (hL : L ≤ 2048) (F : wFix p s m c #[Value.ref b] cL_law RL 4 D Y ad 176) (hX : va_X b L xs s s.heap) (hbl : b < s.heap.size) (hbA : ¬ wA ad 176 b) {cells slots : Nat} (hcs : cells ≤ room_1.cells ∧ slots ≤ room_1.slots) {Q : State → Prop} {k : Nat} (hk : k ≤ 512) (hkL : 4 * k + 4 ≤ L) {H : Heap} {locs : List Loc} {C : Nat → va_E} (hP : wP D ad 176 C H) (hS : va_S (wA ad 176) s.heap H locs) {ls : Array Slot} (hl : lv_has ls 4 [(3, .int (nI (4 * k))), (0, .ref b), (1, .ref (ad 0)), (2, .ref (ad 170))]) {f : Nat → Int32} {hs : Nat → Nat → Int32} {kn : Nat} {sl : Nat → Nat → Int32} {sv pd : Nat → Int32} {n : Nat} (hA : clsA Y ad C 0 f hs kn sl sv pd n) (hM : mdlA Y ad C 170 f hs kn sl sv pd n) (hok : okRow (60000 * k) f) (hokh : ∀ i, i < kn → okRow (60000 * k) (hs i)) (hoks : ∀ i, i < 2 → okRow (60000 * k) (sl i)) (kb : ∀ (H : Heap) (locs : List Loc) (C : Nat → va_E) (ls : Array Slot), wP D ad 176 C H → va_S (wA ad 176) s.heap H locs → lv_has ls 4 [(3, .int (nI (4 * (k + 1)))), (0, .ref b), (1, .ref (ad 0)), (2, .ref (ad 170))] → LINV Y ad C (k + 1) → W p l e room_1 s m #[Value.ref b] below meth c H locs cells slots Q (F0 m 18 ls [])) : W p l e room_1 s m #[Value.ref b] below meth c H locs cells slots Q (F0 m 623 ls []) := by
  obtain ⟨x1, hx1⟩ : ∃ z, z = xs (nI (4 * k) + 1).toNatClampNeg := ⟨_, rfl⟩
  obtain ⟨x2, hx2⟩ : ∃ z, z = xs (nI (4 * k) + 2).toNatClampNeg := ⟨_, rfl⟩
  obtain ⟨x3, hx3⟩ : ∃ z, z = xs (nI (4 * k) + 3).toNatClampNeg := ⟨_, rfl⟩
  refine lv_aload_n F.1 F.2.1 dL_law_623 rfl (lv_at hl 2 rfl) ?_
  refine w_calli F hP hS (c_X7_undo l D Y ad 176 hI _ 0 (by decide) f hs kn sl sv pd n hA hok.2.1 (fun i hi => (hokh i hi).2.1) (fun i hi => (hoks i hi).2.1)) (cwVm 0 F.2.2.2.2.1 (fun _ h => h) mw_678 mw_675 mw_676 mw_677 mw_2 rfl rfl ydX7_undo ⟨by decide, by decide⟩) (by decide) (clsA_at hA) rfl rfl hl.1 rfl (Nat.le_of_ble_eq_true rfl) dL_law_624 hcs (fun r7 C7 H locs hq7 hP hS => ?_)
  by_cases he : ¬ kn = 0
  · obtain ⟨hr7, hA7, hF7⟩ := hq7.1 he
    have hM7 := mdlA_same hM (fun j a b => hF7 j (by omega))
    refine lv_aload_n F.1 F.2.1 dL_law_627 rfl (lv_at hl 3 rfl) ?_
    obtain ⟨gr8, hg8⟩ := mdlA_at hM7
    refine w_calli F hP hS (cm_X8_undo l D Y ad 176 hI _ 170 (by decide) f hs kn sl sv pd n hM7 ) (cwVm 0 F.2.2.2.2.1 (fun _ h => h) mw_686 mw_683 mw_684 mw_685 mw_5 rfl rfl ydX8_undo ⟨by decide, by decide⟩) (by decide) hg8 rfl rfl hl.1 rfl (Nat.le_of_ble_eq_true rfl) dL_law_628 hcs (fun r8 C8 H locs hq8 hP hS => ?_)
    obtain ⟨hr8, hM8, hF8⟩ := hq8.1 he
    have hA8 := clsA_same hA7 (fun j a b => hF8 j (by omega))
    refine lv_icmp_eq (tgt := 682) F.1 F.2.1 dL_law_631 (by decide) (fun c1 => ?_) (fun c1 => False.elim (c1 (hr7.trans hr8.symm)))
    refine lv_iinc (v := (nI (4 * k)) + 4) (lv' := [(3, .int ((nI (4 * k)) + 4)), (0, .ref (b)), (1, .ref (ad 0)), (2, .ref (ad 170))]) F.1 F.2.1 dL_law_682 hl (k := 0) rfl rfl (by decide) rfl (fun ls hl => ?_)
    refine lv_goto (tgt := 18) F.1 F.2.1 dL_law_685 (by decide) ?_
    exact kb _ _ _ _ hP hS (by rw [show nI (4 * (k + 1)) = nI (4 * k) + 4 from (nI_add (4 * k) 4).symm]; exact lv_sub hl [0, 1, 2, 3] rfl) ⟨(hs (kn - 1)), hs, (kn - 1), sl, sv, pd, n, hA8, hM8, (up1 (hokh (kn - 1) (by omega))), (fun i hi => up1 (hokh i (by omega))), (fun i hi => up1 (hoks i hi))⟩
  · obtain ⟨hr7, hw7⟩ := hq7.2 (Decidable.not_not.mp he); rw [hw7] at hP
    refine lv_aload_n F.1 F.2.1 dL_law_627 rfl (lv_at hl 3 rfl) ?_
    obtain ⟨gr8, hg8⟩ := mdlA_at hM
    refine w_calli F hP hS (cm_X8_undo l D Y ad 176 hI _ 170 (by decide) f hs kn sl sv pd n hM ) (cwVm 0 F.2.2.2.2.1 (fun _ h => h) mw_686 mw_683 mw_684 mw_685 mw_5 rfl rfl ydX8_undo ⟨by decide, by decide⟩) (by decide) hg8 rfl rfl hl.1 rfl (Nat.le_of_ble_eq_true rfl) dL_law_628 hcs (fun r8 C8 H locs hq8 hP hS => ?_)
    obtain ⟨hr8, hM8, hF8⟩ := hq8.2 (Decidable.not_not.mp he)
    have hA8 := clsA_same hA (fun j a b => hF8 j (by omega))
    refine lv_icmp_eq (tgt := 682) F.1 F.2.1 dL_law_631 (by decide) (fun c2 => ?_) (fun c2 => False.elim (c2 (hr7.trans hr8.symm)))
    refine lv_iinc (v := (nI (4 * k)) + 4) (lv' := [(3, .int ((nI (4 * k)) + 4)), (0, .ref (b)), (1, .ref (ad 0)), (2, .ref (ad 170))]) F.1 F.2.1 dL_law_682 hl (k := 0) rfl rfl (by decide) rfl (fun ls hl => ?_)
    refine lv_goto (tgt := 18) F.1 F.2.1 dL_law_685 (by decide) ?_
    exact kb _ _ _ _ hP hS (by rw [show nI (4 * (k + 1)) = nI (4 * k) + 4 from (nI_add (4 * k) 4).symm]; exact lv_sub hl [0, 1, 2, 3] rfl) ⟨f, hs, kn, sl, sv, pd, n, hA8, hM8, up1 hok, (fun i hi => up1 (hokh i hi)), (fun i hi => up1 (hoks i hi))⟩
set_option maxRecDepth 20000 in
set_option maxHeartbeats 2000000 in
theorem law_case_20 {p : Program} {l : Launch} {e : Env} {s : State} {m : MethodId} {below : List Frame} {meth : Method} {c : Code} {D : va_G} {Y : Nat → ClassId} {ad : Nat → Nat} (hI : wI ad 176) {b L : Nat} {xs : Nat → Int32} (hL : L ≤ 2048) (F : wFix p s m c #[Value.ref b] cL_law RL 4 D Y ad 176) (hX : va_X b L xs s s.heap) (hbl : b < s.heap.size) (hbA : ¬ wA ad 176 b) {cells slots : Nat} (hcs : cells ≤ room_1.cells ∧ slots ≤ room_1.slots) {Q : State → Prop} {k : Nat} (hk : k ≤ 512) (hkL : 4 * k + 4 ≤ L) {H : Heap} {locs : List Loc} {C : Nat → va_E} (hP : wP D ad 176 C H) (hS : va_S (wA ad 176) s.heap H locs) {ls : Array Slot} (hl : lv_has ls 4 [(3, .int (nI (4 * k))), (0, .ref b), (1, .ref (ad 0)), (2, .ref (ad 170))]) {f : Nat → Int32} {hs : Nat → Nat → Int32} {kn : Nat} {sl : Nat → Nat → Int32} {sv pd : Nat → Int32} {n : Nat} (hA : clsA Y ad C 0 f hs kn sl sv pd n) (hM : mdlA Y ad C 170 f hs kn sl sv pd n) (hok : okRow (60000 * k) f) (hokh : ∀ i, i < kn → okRow (60000 * k) (hs i)) (hoks : ∀ i, i < 2 → okRow (60000 * k) (sl i)) (kb : ∀ (H : Heap) (locs : List Loc) (C : Nat → va_E) (ls : Array Slot), wP D ad 176 C H → va_S (wA ad 176) s.heap H locs → lv_has ls 4 [(3, .int (nI (4 * (k + 1)))), (0, .ref b), (1, .ref (ad 0)), (2, .ref (ad 170))] → LINV Y ad C (k + 1) → W p l e room_1 s m #[Value.ref b] below meth c H locs cells slots Q (F0 m 18 ls [])) : W p l e room_1 s m #[Value.ref b] below meth c H locs cells slots Q (F0 m 636 ls []) := by
  obtain ⟨x1, hx1⟩ : ∃ z, z = xs (nI (4 * k) + 1).toNatClampNeg := ⟨_, rfl⟩
  obtain ⟨x2, hx2⟩ : ∃ z, z = xs (nI (4 * k) + 2).toNatClampNeg := ⟨_, rfl⟩
  obtain ⟨x3, hx3⟩ : ∃ z, z = xs (nI (4 * k) + 3).toNatClampNeg := ⟨_, rfl⟩
  refine lv_aload_n F.1 F.2.1 dL_law_636 rfl (lv_at hl 2 rfl) ?_
  refine lv_aload_n F.1 F.2.1 dL_law_637 rfl (lv_at hl 1 rfl) ?_
  refine lv_iload_n F.1 F.2.1 dL_law_638 rfl (lv_at hl 0 rfl) ?_
  refine lv_iconst (v := 1) F.1 F.2.1 dL_law_639 (by decide) ?_
  refine lv_iadd F.1 F.2.1 dL_law_640 ?_
  refine va_sld F.1 F.2.1 hX hbl hbA hS (i := (nI (4 * k)) + 1) (by rw [show nI (4 * k) + 1 = nI (4 * k + 1) from nI_add _ 1]; exact vp_in_nI (by omega) (by omega)) dL_law_641 ?_
  refine lv_topi (fun v1 ev1 => ?_)
  have fv1 : x1 = v1 := hx1.trans ev1.symm
  subst fv1
  refine w_calli F hP hS (c_X7_save l D Y ad 176 hI _ 0 (by decide) f hs kn sl sv pd n hA x1 hok.2.1 (fun i hi => (hokh i hi).2.1) (fun i hi => (hoks i hi).2.1)) (cwVm 1 F.2.2.2.2.1 (fun _ h => h) mw_690 mw_687 mw_688 mw_689 mw_2 rfl rfl ydX7_save ⟨by decide, by decide⟩) (by decide) (clsA_at hA) rfl rfl hl.1 rfl (Nat.le_of_ble_eq_true rfl) dL_law_642 hcs (fun r7 C7 H locs hq7 hP hS => ?_)
  by_cases he : (if 0 ≤ x1 ∧ x1 < 2 then (0 : Int32) else -2) = 0
  · obtain ⟨hr7, hA7, hF7⟩ := hq7.1 he
    have hM7 := mdlA_same hM (fun j a b => hF7 j (by omega))
    refine lv_aload_n F.1 F.2.1 dL_law_645 rfl (lv_at hl 3 rfl) ?_
    refine lv_aload_n F.1 F.2.1 dL_law_646 rfl (lv_at hl 1 rfl) ?_
    refine lv_iload_n F.1 F.2.1 dL_law_647 rfl (lv_at hl 0 rfl) ?_
    refine lv_iconst (v := 1) F.1 F.2.1 dL_law_648 (by decide) ?_
    refine lv_iadd F.1 F.2.1 dL_law_649 ?_
    refine va_sld F.1 F.2.1 hX hbl hbA hS (i := (nI (4 * k)) + 1) (by rw [show nI (4 * k) + 1 = nI (4 * k + 1) from nI_add _ 1]; exact vp_in_nI (by omega) (by omega)) dL_law_650 ?_
    refine lv_topi (fun v2 ev2 => ?_)
    have fv2 : x1 = v2 := hx1.trans ev2.symm
    subst fv2
    obtain ⟨gr8, hg8⟩ := mdlA_at hM7
    refine w_calli F hP hS (cm_X8_save l D Y ad 176 hI _ 170 (by decide) f hs kn sl sv pd n hM7 x1) (cwVm 1 F.2.2.2.2.1 (fun _ h => h) mw_695 mw_692 mw_693 mw_694 mw_5 rfl rfl ydX8_save ⟨by decide, by decide⟩) (by decide) hg8 rfl rfl hl.1 rfl (Nat.le_of_ble_eq_true rfl) dL_law_651 hcs (fun r8 C8 H locs hq8 hP hS => ?_)
    obtain ⟨hr8, hM8, hF8⟩ := hq8.1 he
    have hA8 := clsA_same hA7 (fun j a b => hF8 j (by omega))
    refine lv_icmp_eq (tgt := 682) F.1 F.2.1 dL_law_654 (by decide) (fun c3 => ?_) (fun c3 => False.elim (c3 (hr7.trans hr8.symm)))
    refine lv_iinc (v := (nI (4 * k)) + 4) (lv' := [(3, .int ((nI (4 * k)) + 4)), (0, .ref (b)), (1, .ref (ad 0)), (2, .ref (ad 170))]) F.1 F.2.1 dL_law_682 hl (k := 0) rfl rfl (by decide) rfl (fun ls hl => ?_)
    refine lv_goto (tgt := 18) F.1 F.2.1 dL_law_685 (by decide) ?_
    exact kb _ _ _ _ hP hS (by rw [show nI (4 * (k + 1)) = nI (4 * k) + 4 from (nI_add (4 * k) 4).symm]; exact lv_sub hl [0, 1, 2, 3] rfl) ⟨f, hs, kn, (va_up sl x1.toNatClampNeg f), (upd sv x1.toNatClampNeg 1), pd, n, hA8, hM8, (up1 hok), (fun i hi => up1 (hokh i hi)), (fun i hi => by by_cases q : i = x1.toNatClampNeg; (rw [q, va_up_self]; exact up1 hok); (rw [va_up_ne _ _ q]; exact up1 (hoks i hi)))⟩
  · obtain ⟨hr7, hw7⟩ := hq7.2 he; rw [hw7] at hP
    refine lv_aload_n F.1 F.2.1 dL_law_645 rfl (lv_at hl 3 rfl) ?_
    refine lv_aload_n F.1 F.2.1 dL_law_646 rfl (lv_at hl 1 rfl) ?_
    refine lv_iload_n F.1 F.2.1 dL_law_647 rfl (lv_at hl 0 rfl) ?_
    refine lv_iconst (v := 1) F.1 F.2.1 dL_law_648 (by decide) ?_
    refine lv_iadd F.1 F.2.1 dL_law_649 ?_
    refine va_sld F.1 F.2.1 hX hbl hbA hS (i := (nI (4 * k)) + 1) (by rw [show nI (4 * k) + 1 = nI (4 * k + 1) from nI_add _ 1]; exact vp_in_nI (by omega) (by omega)) dL_law_650 ?_
    refine lv_topi (fun v4 ev4 => ?_)
    have fv4 : x1 = v4 := hx1.trans ev4.symm
    subst fv4
    obtain ⟨gr8, hg8⟩ := mdlA_at hM
    refine w_calli F hP hS (cm_X8_save l D Y ad 176 hI _ 170 (by decide) f hs kn sl sv pd n hM x1) (cwVm 1 F.2.2.2.2.1 (fun _ h => h) mw_695 mw_692 mw_693 mw_694 mw_5 rfl rfl ydX8_save ⟨by decide, by decide⟩) (by decide) hg8 rfl rfl hl.1 rfl (Nat.le_of_ble_eq_true rfl) dL_law_651 hcs (fun r8 C8 H locs hq8 hP hS => ?_)
    obtain ⟨hr8, hM8, hF8⟩ := hq8.2 he
    have hA8 := clsA_same hA (fun j a b => hF8 j (by omega))
    refine lv_icmp_eq (tgt := 682) F.1 F.2.1 dL_law_654 (by decide) (fun c5 => ?_) (fun c5 => False.elim (c5 (hr7.trans hr8.symm)))
    refine lv_iinc (v := (nI (4 * k)) + 4) (lv' := [(3, .int ((nI (4 * k)) + 4)), (0, .ref (b)), (1, .ref (ad 0)), (2, .ref (ad 170))]) F.1 F.2.1 dL_law_682 hl (k := 0) rfl rfl (by decide) rfl (fun ls hl => ?_)
    refine lv_goto (tgt := 18) F.1 F.2.1 dL_law_685 (by decide) ?_
    exact kb _ _ _ _ hP hS (by rw [show nI (4 * (k + 1)) = nI (4 * k) + 4 from (nI_add (4 * k) 4).symm]; exact lv_sub hl [0, 1, 2, 3] rfl) ⟨f, hs, kn, sl, sv, pd, n, hA8, hM8, up1 hok, (fun i hi => up1 (hokh i hi)), (fun i hi => up1 (hoks i hi))⟩
set_option maxRecDepth 20000 in
set_option maxHeartbeats 2000000 in
theorem law_case_21 {p : Program} {l : Launch} {e : Env} {s : State} {m : MethodId} {below : List Frame} {meth : Method} {c : Code} {D : va_G} {Y : Nat → ClassId} {ad : Nat → Nat} (hI : wI ad 176) {b L : Nat} {xs : Nat → Int32} (hL : L ≤ 2048) (F : wFix p s m c #[Value.ref b] cL_law RL 4 D Y ad 176) (hX : va_X b L xs s s.heap) (hbl : b < s.heap.size) (hbA : ¬ wA ad 176 b) {cells slots : Nat} (hcs : cells ≤ room_1.cells ∧ slots ≤ room_1.slots) {Q : State → Prop} {k : Nat} (hk : k ≤ 512) (hkL : 4 * k + 4 ≤ L) {H : Heap} {locs : List Loc} {C : Nat → va_E} (hP : wP D ad 176 C H) (hS : va_S (wA ad 176) s.heap H locs) {ls : Array Slot} (hl : lv_has ls 4 [(3, .int (nI (4 * k))), (0, .ref b), (1, .ref (ad 0)), (2, .ref (ad 170))]) {f : Nat → Int32} {hs : Nat → Nat → Int32} {kn : Nat} {sl : Nat → Nat → Int32} {sv pd : Nat → Int32} {n : Nat} (hA : clsA Y ad C 0 f hs kn sl sv pd n) (hM : mdlA Y ad C 170 f hs kn sl sv pd n) (hok : okRow (60000 * k) f) (hokh : ∀ i, i < kn → okRow (60000 * k) (hs i)) (hoks : ∀ i, i < 2 → okRow (60000 * k) (sl i)) (kb : ∀ (H : Heap) (locs : List Loc) (C : Nat → va_E) (ls : Array Slot), wP D ad 176 C H → va_S (wA ad 176) s.heap H locs → lv_has ls 4 [(3, .int (nI (4 * (k + 1)))), (0, .ref b), (1, .ref (ad 0)), (2, .ref (ad 170))] → LINV Y ad C (k + 1) → W p l e room_1 s m #[Value.ref b] below meth c H locs cells slots Q (F0 m 18 ls [])) : W p l e room_1 s m #[Value.ref b] below meth c H locs cells slots Q (F0 m 659 ls []) := by
  obtain ⟨x1, hx1⟩ : ∃ z, z = xs (nI (4 * k) + 1).toNatClampNeg := ⟨_, rfl⟩
  obtain ⟨x2, hx2⟩ : ∃ z, z = xs (nI (4 * k) + 2).toNatClampNeg := ⟨_, rfl⟩
  obtain ⟨x3, hx3⟩ : ∃ z, z = xs (nI (4 * k) + 3).toNatClampNeg := ⟨_, rfl⟩
  refine lv_aload_n F.1 F.2.1 dL_law_659 rfl (lv_at hl 2 rfl) ?_
  refine lv_aload_n F.1 F.2.1 dL_law_660 rfl (lv_at hl 1 rfl) ?_
  refine lv_iload_n F.1 F.2.1 dL_law_661 rfl (lv_at hl 0 rfl) ?_
  refine lv_iconst (v := 1) F.1 F.2.1 dL_law_662 (by decide) ?_
  refine lv_iadd F.1 F.2.1 dL_law_663 ?_
  refine va_sld F.1 F.2.1 hX hbl hbA hS (i := (nI (4 * k)) + 1) (by rw [show nI (4 * k) + 1 = nI (4 * k + 1) from nI_add _ 1]; exact vp_in_nI (by omega) (by omega)) dL_law_664 ?_
  refine lv_topi (fun v1 ev1 => ?_)
  have fv1 : x1 = v1 := hx1.trans ev1.symm
  subst fv1
  refine w_calli F hP hS (c_X7_restore l D Y ad 176 hI _ 0 (by decide) f hs kn sl sv pd n hA x1 hok.2.1 (fun i hi => (hokh i hi).2.1) (fun i hi => (hoks i hi).2.1)) (cwVm 1 F.2.2.2.2.1 (fun _ h => h) mw_699 mw_696 mw_697 mw_698 mw_2 rfl rfl ydX7_restore ⟨by decide, by decide⟩) (by decide) (clsA_at hA) rfl rfl hl.1 rfl (Nat.le_of_ble_eq_true rfl) dL_law_665 hcs (fun r7 C7 H locs hq7 hP hS => ?_)
  by_cases he : T_ree sv x1 = 0
  · obtain ⟨hr7, hA7, hF7⟩ := hq7.1 he
    have hM7 := mdlA_same hM (fun j a b => hF7 j (by omega))
    refine lv_aload_n F.1 F.2.1 dL_law_668 rfl (lv_at hl 3 rfl) ?_
    refine lv_aload_n F.1 F.2.1 dL_law_669 rfl (lv_at hl 1 rfl) ?_
    refine lv_iload_n F.1 F.2.1 dL_law_670 rfl (lv_at hl 0 rfl) ?_
    refine lv_iconst (v := 1) F.1 F.2.1 dL_law_671 (by decide) ?_
    refine lv_iadd F.1 F.2.1 dL_law_672 ?_
    refine va_sld F.1 F.2.1 hX hbl hbA hS (i := (nI (4 * k)) + 1) (by rw [show nI (4 * k) + 1 = nI (4 * k + 1) from nI_add _ 1]; exact vp_in_nI (by omega) (by omega)) dL_law_673 ?_
    refine lv_topi (fun v2 ev2 => ?_)
    have fv2 : x1 = v2 := hx1.trans ev2.symm
    subst fv2
    obtain ⟨gr8, hg8⟩ := mdlA_at hM7
    refine w_calli F hP hS (cm_X8_restore l D Y ad 176 hI _ 170 (by decide) f hs kn sl sv pd n hM7 x1) (cwVm 1 F.2.2.2.2.1 (fun _ h => h) mw_703 mw_700 mw_701 mw_702 mw_5 rfl rfl ydX8_restore ⟨by decide, by decide⟩) (by decide) hg8 rfl rfl hl.1 rfl (Nat.le_of_ble_eq_true rfl) dL_law_674 hcs (fun r8 C8 H locs hq8 hP hS => ?_)
    obtain ⟨hr8, hM8, hF8⟩ := hq8.1 he
    have hA8 := clsA_same hA7 (fun j a b => hF8 j (by omega))
    refine lv_icmp_eq (tgt := 682) F.1 F.2.1 dL_law_677 (by decide) (fun c3 => ?_) (fun c3 => False.elim (c3 (hr7.trans hr8.symm)))
    refine lv_iinc (v := (nI (4 * k)) + 4) (lv' := [(3, .int ((nI (4 * k)) + 4)), (0, .ref (b)), (1, .ref (ad 0)), (2, .ref (ad 170))]) F.1 F.2.1 dL_law_682 hl (k := 0) rfl rfl (by decide) rfl (fun ls hl => ?_)
    refine lv_goto (tgt := 18) F.1 F.2.1 dL_law_685 (by decide) ?_
    have hx12 : x1.toNatClampNeg < 2 := by unfold T_ree at he; by_cases q : 0 ≤ x1 ∧ x1 < 2; (obtain ⟨kk, q1, q2, q3⟩ := lt_x (m := 2) (by decide) q.1 q.2; omega); (rw [if_neg q] at he; exact absurd he (by decide))
    exact kb _ _ _ _ hP hS (by rw [show nI (4 * (k + 1)) = nI (4 * k) + 4 from (nI_add (4 * k) 4).symm]; exact lv_sub hl [0, 1, 2, 3] rfl) ⟨(sl x1.toNatClampNeg), (H_rec f hs kn), (K_rec kn), sl, sv, pd, n, hA8, hM8, (up1 (hoks _ hx12)), (rec_ok (clsA_kn hA) (up1 hok) (fun i hi => up1 (hokh i hi))), (fun i hi => up1 (hoks i hi))⟩
  · obtain ⟨hr7, hw7⟩ := hq7.2 he; rw [hw7] at hP
    refine lv_aload_n F.1 F.2.1 dL_law_668 rfl (lv_at hl 3 rfl) ?_
    refine lv_aload_n F.1 F.2.1 dL_law_669 rfl (lv_at hl 1 rfl) ?_
    refine lv_iload_n F.1 F.2.1 dL_law_670 rfl (lv_at hl 0 rfl) ?_
    refine lv_iconst (v := 1) F.1 F.2.1 dL_law_671 (by decide) ?_
    refine lv_iadd F.1 F.2.1 dL_law_672 ?_
    refine va_sld F.1 F.2.1 hX hbl hbA hS (i := (nI (4 * k)) + 1) (by rw [show nI (4 * k) + 1 = nI (4 * k + 1) from nI_add _ 1]; exact vp_in_nI (by omega) (by omega)) dL_law_673 ?_
    refine lv_topi (fun v4 ev4 => ?_)
    have fv4 : x1 = v4 := hx1.trans ev4.symm
    subst fv4
    obtain ⟨gr8, hg8⟩ := mdlA_at hM
    refine w_calli F hP hS (cm_X8_restore l D Y ad 176 hI _ 170 (by decide) f hs kn sl sv pd n hM x1) (cwVm 1 F.2.2.2.2.1 (fun _ h => h) mw_703 mw_700 mw_701 mw_702 mw_5 rfl rfl ydX8_restore ⟨by decide, by decide⟩) (by decide) hg8 rfl rfl hl.1 rfl (Nat.le_of_ble_eq_true rfl) dL_law_674 hcs (fun r8 C8 H locs hq8 hP hS => ?_)
    obtain ⟨hr8, hM8, hF8⟩ := hq8.2 he
    have hA8 := clsA_same hA (fun j a b => hF8 j (by omega))
    refine lv_icmp_eq (tgt := 682) F.1 F.2.1 dL_law_677 (by decide) (fun c5 => ?_) (fun c5 => False.elim (c5 (hr7.trans hr8.symm)))
    refine lv_iinc (v := (nI (4 * k)) + 4) (lv' := [(3, .int ((nI (4 * k)) + 4)), (0, .ref (b)), (1, .ref (ad 0)), (2, .ref (ad 170))]) F.1 F.2.1 dL_law_682 hl (k := 0) rfl rfl (by decide) rfl (fun ls hl => ?_)
    refine lv_goto (tgt := 18) F.1 F.2.1 dL_law_685 (by decide) ?_
    exact kb _ _ _ _ hP hS (by rw [show nI (4 * (k + 1)) = nI (4 * k) + 4 from (nI_add (4 * k) 4).symm]; exact lv_sub hl [0, 1, 2, 3] rfl) ⟨f, hs, kn, sl, sv, pd, n, hA8, hM8, up1 hok, (fun i hi => up1 (hokh i hi)), (fun i hi => up1 (hoks i hi))⟩
set_option maxRecDepth 20000 in
set_option maxHeartbeats 2000000 in
theorem law_case_99 {p : Program} {l : Launch} {e : Env} {s : State} {m : MethodId} {below : List Frame} {meth : Method} {c : Code} {D : va_G} {Y : Nat → ClassId} {ad : Nat → Nat} (hI : wI ad 176) {b L : Nat} {xs : Nat → Int32} (hL : L ≤ 2048) (F : wFix p s m c #[Value.ref b] cL_law RL 4 D Y ad 176) (hX : va_X b L xs s s.heap) (hbl : b < s.heap.size) (hbA : ¬ wA ad 176 b) {cells slots : Nat} (hcs : cells ≤ room_1.cells ∧ slots ≤ room_1.slots) {Q : State → Prop} {k : Nat} (hk : k ≤ 512) (hkL : 4 * k + 4 ≤ L) {H : Heap} {locs : List Loc} {C : Nat → va_E} (hP : wP D ad 176 C H) (hS : va_S (wA ad 176) s.heap H locs) {ls : Array Slot} (hl : lv_has ls 4 [(3, .int (nI (4 * k))), (0, .ref b), (1, .ref (ad 0)), (2, .ref (ad 170))]) {f : Nat → Int32} {hs : Nat → Nat → Int32} {kn : Nat} {sl : Nat → Nat → Int32} {sv pd : Nat → Int32} {n : Nat} (hA : clsA Y ad C 0 f hs kn sl sv pd n) (hM : mdlA Y ad C 170 f hs kn sl sv pd n) (hok : okRow (60000 * k) f) (hokh : ∀ i, i < kn → okRow (60000 * k) (hs i)) (hoks : ∀ i, i < 2 → okRow (60000 * k) (sl i)) (kb : ∀ (H : Heap) (locs : List Loc) (C : Nat → va_E) (ls : Array Slot), wP D ad 176 C H → va_S (wA ad 176) s.heap H locs → lv_has ls 4 [(3, .int (nI (4 * (k + 1)))), (0, .ref b), (1, .ref (ad 0)), (2, .ref (ad 170))] → LINV Y ad C (k + 1) → W p l e room_1 s m #[Value.ref b] below meth c H locs cells slots Q (F0 m 18 ls [])) : W p l e room_1 s m #[Value.ref b] below meth c H locs cells slots Q (F0 m 682 ls []) := by
  obtain ⟨x1, hx1⟩ : ∃ z, z = xs (nI (4 * k) + 1).toNatClampNeg := ⟨_, rfl⟩
  obtain ⟨x2, hx2⟩ : ∃ z, z = xs (nI (4 * k) + 2).toNatClampNeg := ⟨_, rfl⟩
  obtain ⟨x3, hx3⟩ : ∃ z, z = xs (nI (4 * k) + 3).toNatClampNeg := ⟨_, rfl⟩
  refine lv_iinc (v := (nI (4 * k)) + 4) (lv' := [(3, .int ((nI (4 * k)) + 4)), (0, .ref (b)), (1, .ref (ad 0)), (2, .ref (ad 170))]) F.1 F.2.1 dL_law_682 hl (k := 0) rfl rfl (by decide) rfl (fun ls hl => ?_)
  refine lv_goto (tgt := 18) F.1 F.2.1 dL_law_685 (by decide) ?_
  exact kb _ _ _ _ hP hS (by rw [show nI (4 * (k + 1)) = nI (4 * k) + 4 from (nI_add (4 * k) 4).symm]; exact lv_sub hl [0, 1, 2, 3] rfl) ⟨f, hs, kn, sl, sv, pd, n, hA, hM, up1 hok, (fun i hi => up1 (hokh i hi)), (fun i hi => up1 (hoks i hi))⟩
set_option maxRecDepth 20000 in
set_option maxHeartbeats 4000000 in
/-- from the loop's head on, whatever both have come through -/
theorem law_loop {p : Program} {l : Launch} {e : Env} {s : State} {m : MethodId} {below : List Frame} {meth : Method} {c : Code} {D : va_G} {Y : Nat → ClassId} {ad : Nat → Nat} (hI : wI ad 176) {b L : Nat} {xs : Nat → Int32} (hL : L ≤ 2048) (F : wFix p s m c #[Value.ref b] cL_law RL 4 D Y ad 176) (hX : va_X b L xs s s.heap) (hbl : b < s.heap.size) (hbA : ¬ wA ad 176 b) {cells slots : Nat} (hcs : cells ≤ room_1.cells ∧ slots ≤ room_1.slots) {Q : State → Prop}
    (kx : ∀ (H : Heap) (locs : List Loc) (ls : Array Slot), va_S (wA ad 176) s.heap H locs → W p l e room_1 s m #[Value.ref b] below meth c H locs cells slots Q (F0 m 689 ls [.int 1]))
    {H : Heap} {locs : List Loc} {C : Nat → va_E} (hP : wP D ad 176 C H) (hS : va_S (wA ad 176) s.heap H locs) {ls : Array Slot} (hl : lv_has ls 4 [(3, .int (nI (4 * 0))), (0, .ref b), (1, .ref (ad 0)), (2, .ref (ad 170))]) (hINV : LINV Y ad C 0) : W p l e room_1 s m #[Value.ref b] below meth c H locs cells slots Q (F0 m 18 ls []) := by
  refine w_loop (Inv := fun j ls C' => ∃ k : Nat, j = 513 - k ∧ k ≤ 512 ∧ lv_has ls 4 [(3, .int (nI (4 * k))), (0, .ref b), (1, .ref (ad 0)), (2, .ref (ad 170))] ∧ LINV Y ad C' k) ?_ 513 ⟨0, rfl, by decide, hl, hINV⟩ hP hS
  intro j ih H locs ls C hInv hP hS
  obtain ⟨k, hj, hk, hl, f, hs, kn, sl, sv, pd, n, hA, hM, hok, hokh, hoks⟩ := hInv
  refine lv_iload_n F.1 F.2.1 dL_law_18 rfl (lv_at hl 0 rfl) ?_
  refine lv_aload_n F.1 F.2.1 dL_law_19 rfl (lv_at hl 1 rfl) ?_
  refine va_slen F.1 F.2.1 hX hbl hbA hS dL_law_20 ?_
  refine lv_iconst (v := 4) F.1 F.2.1 dL_law_21 (by decide) ?_
  refine lv_isub F.1 F.2.1 dL_law_22 ?_
  refine lv_icmp_gt (tgt := 688) F.1 F.2.1 dL_law_23 (by decide) (fun c1 => ?_) (fun c1 => ?_)
  · refine lv_iconst (v := 1) F.1 F.2.1 dL_law_688 (by decide) ?_
    exact kx _ _ _ hS
  · have hkL := law_le hL c1 hk
    obtain ⟨x0, hx0⟩ : ∃ z, z = xs (nI (4 * k)).toNatClampNeg := ⟨_, rfl⟩
    refine lv_aload_n F.1 F.2.1 dL_law_26 rfl (lv_at hl 1 rfl) ?_
    refine lv_iload_n F.1 F.2.1 dL_law_27 rfl (lv_at hl 0 rfl) ?_
    refine va_sld F.1 F.2.1 hX hbl hbA hS (i := nI (4 * k)) (vp_in_nI (by omega) (by omega)) dL_law_28 ?_
    refine lv_topi (fun v2 ev2 => ?_)
    have fv2 : x0 = v2 := hx0.trans ev2.symm
    subst fv2
    refine lv_bipush (v := 31) F.1 F.2.1 dL_law_29 (by decide) ?_
    refine lv_iand F.1 F.2.1 dL_law_31 ?_
    by_cases k3 : x0 &&& 31 = 0
    · refine lv_tableIn (off := 104) (tgt := 136) F.1 F.2.1 dL_law_32 (by rw [k3]; decide) (by rw [k3]; decide) (by rw [k3]; rfl) (by decide) ?_
      exact law_case_0 hI hL F hX hbl hbA hcs hk hkL hP hS hl hA hM hok hokh hoks (fun H locs C ls a b2 d f2 => ih _ (by omega) _ _ _ _ ⟨k + 1, rfl, by omega, d, f2⟩ a b2)
    · by_cases k4 : x0 &&& 31 = 1
      · refine lv_tableIn (off := 137) (tgt := 169) F.1 F.2.1 dL_law_32 (by rw [k4]; decide) (by rw [k4]; decide) (by rw [k4]; rfl) (by decide) ?_
        exact law_case_1 hI hL F hX hbl hbA hcs hk hkL hP hS hl hA hM hok hokh hoks (fun H locs C ls a b2 d f2 => ih _ (by omega) _ _ _ _ ⟨k + 1, rfl, by omega, d, f2⟩ a b2)
      · by_cases k5 : x0 &&& 31 = 2
        · refine lv_tableIn (off := 180) (tgt := 212) F.1 F.2.1 dL_law_32 (by rw [k5]; decide) (by rw [k5]; decide) (by rw [k5]; rfl) (by decide) ?_
          exact law_case_2 hI hL F hX hbl hbA hcs hk hkL hP hS hl hA hM hok hokh hoks (fun H locs C ls a b2 d f2 => ih _ (by omega) _ _ _ _ ⟨k + 1, rfl, by omega, d, f2⟩ a b2)
        · by_cases k6 : x0 &&& 31 = 3
          · refine lv_tableIn (off := 203) (tgt := 235) F.1 F.2.1 dL_law_32 (by rw [k6]; decide) (by rw [k6]; decide) (by rw [k6]; rfl) (by decide) ?_
            exact law_case_3 hI hL F hX hbl hbA hcs hk hkL hP hS hl hA hM hok hokh hoks (fun H locs C ls a b2 d f2 => ih _ (by omega) _ _ _ _ ⟨k + 1, rfl, by omega, d, f2⟩ a b2)
          · by_cases k7 : x0 &&& 31 = 4
            · refine lv_tableIn (off := 226) (tgt := 258) F.1 F.2.1 dL_law_32 (by rw [k7]; decide) (by rw [k7]; decide) (by rw [k7]; rfl) (by decide) ?_
              exact law_case_4 hI hL F hX hbl hbA hcs hk hkL hP hS hl hA hM hok hokh hoks (fun H locs C ls a b2 d f2 => ih _ (by omega) _ _ _ _ ⟨k + 1, rfl, by omega, d, f2⟩ a b2)
            · by_cases k8 : x0 &&& 31 = 5
              · refine lv_tableIn (off := 249) (tgt := 281) F.1 F.2.1 dL_law_32 (by rw [k8]; decide) (by rw [k8]; decide) (by rw [k8]; rfl) (by decide) ?_
                exact law_case_5 hI hL F hX hbl hbA hcs hk hkL hP hS hl hA hM hok hokh hoks (fun H locs C ls a b2 d f2 => ih _ (by omega) _ _ _ _ ⟨k + 1, rfl, by omega, d, f2⟩ a b2)
              · by_cases k9 : x0 &&& 31 = 6
                · refine lv_tableIn (off := 272) (tgt := 304) F.1 F.2.1 dL_law_32 (by rw [k9]; decide) (by rw [k9]; decide) (by rw [k9]; rfl) (by decide) ?_
                  exact law_case_6 hI hL F hX hbl hbA hcs hk hkL hP hS hl hA hM hok hokh hoks (fun H locs C ls a b2 d f2 => ih _ (by omega) _ _ _ _ ⟨k + 1, rfl, by omega, d, f2⟩ a b2)
                · by_cases k10 : x0 &&& 31 = 7
                  · refine lv_tableIn (off := 285) (tgt := 317) F.1 F.2.1 dL_law_32 (by rw [k10]; decide) (by rw [k10]; decide) (by rw [k10]; rfl) (by decide) ?_
                    exact law_case_7 hI hL F hX hbl hbA hcs hk hkL hP hS hl hA hM hok hokh hoks (fun H locs C ls a b2 d f2 => ih _ (by omega) _ _ _ _ ⟨k + 1, rfl, by omega, d, f2⟩ a b2)
                  · by_cases k11 : x0 &&& 31 = 8
                    · refine lv_tableIn (off := 318) (tgt := 350) F.1 F.2.1 dL_law_32 (by rw [k11]; decide) (by rw [k11]; decide) (by rw [k11]; rfl) (by decide) ?_
                      exact law_case_8 hI hL F hX hbl hbA hcs hk hkL hP hS hl hA hM hok hokh hoks (fun H locs C ls a b2 d f2 => ih _ (by omega) _ _ _ _ ⟨k + 1, rfl, by omega, d, f2⟩ a b2)
                    · by_cases k12 : x0 &&& 31 = 9
                      · refine lv_tableIn (off := 341) (tgt := 373) F.1 F.2.1 dL_law_32 (by rw [k12]; decide) (by rw [k12]; decide) (by rw [k12]; rfl) (by decide) ?_
                        exact law_case_9 hI hL F hX hbl hbA hcs hk hkL hP hS hl hA hM hok hokh hoks (fun H locs C ls a b2 d f2 => ih _ (by omega) _ _ _ _ ⟨k + 1, rfl, by omega, d, f2⟩ a b2)
                      · by_cases k13 : x0 &&& 31 = 10
                        · refine lv_tableIn (off := 374) (tgt := 406) F.1 F.2.1 dL_law_32 (by rw [k13]; decide) (by rw [k13]; decide) (by rw [k13]; rfl) (by decide) ?_
                          exact law_case_10 hI hL F hX hbl hbA hcs hk hkL hP hS hl hA hM hok hokh hoks (fun H locs C ls a b2 d f2 => ih _ (by omega) _ _ _ _ ⟨k + 1, rfl, by omega, d, f2⟩ a b2)
                        · by_cases k14 : x0 &&& 31 = 11
                          · refine lv_tableIn (off := 397) (tgt := 429) F.1 F.2.1 dL_law_32 (by rw [k14]; decide) (by rw [k14]; decide) (by rw [k14]; rfl) (by decide) ?_
                            exact law_case_11 hI hL F hX hbl hbA hcs hk hkL hP hS hl hA hM hok hokh hoks (fun H locs C ls a b2 d f2 => ih _ (by omega) _ _ _ _ ⟨k + 1, rfl, by omega, d, f2⟩ a b2)
                          · by_cases k15 : x0 &&& 31 = 12
                            · refine lv_tableIn (off := 420) (tgt := 452) F.1 F.2.1 dL_law_32 (by rw [k15]; decide) (by rw [k15]; decide) (by rw [k15]; rfl) (by decide) ?_
                              exact law_case_12 hI hL F hX hbl hbA hcs hk hkL hP hS hl hA hM hok hokh hoks (fun H locs C ls a b2 d f2 => ih _ (by omega) _ _ _ _ ⟨k + 1, rfl, by omega, d, f2⟩ a b2)
                            · by_cases k16 : x0 &&& 31 = 13
                              · refine lv_tableIn (off := 433) (tgt := 465) F.1 F.2.1 dL_law_32 (by rw [k16]; decide) (by rw [k16]; decide) (by rw [k16]; rfl) (by decide) ?_
                                exact law_case_13 hI hL F hX hbl hbA hcs hk hkL hP hS hl hA hM hok hokh hoks (fun H locs C ls a b2 d f2 => ih _ (by omega) _ _ _ _ ⟨k + 1, rfl, by omega, d, f2⟩ a b2)
                              · by_cases k17 : x0 &&& 31 = 14
                                · refine lv_tableIn (off := 456) (tgt := 488) F.1 F.2.1 dL_law_32 (by rw [k17]; decide) (by rw [k17]; decide) (by rw [k17]; rfl) (by decide) ?_
                                  exact law_case_14 hI hL F hX hbl hbA hcs hk hkL hP hS hl hA hM hok hokh hoks (fun H locs C ls a b2 d f2 => ih _ (by omega) _ _ _ _ ⟨k + 1, rfl, by omega, d, f2⟩ a b2)
                                · by_cases k18 : x0 &&& 31 = 15
                                  · refine lv_tableIn (off := 499) (tgt := 531) F.1 F.2.1 dL_law_32 (by rw [k18]; decide) (by rw [k18]; decide) (by rw [k18]; rfl) (by decide) ?_
                                    exact law_case_15 hI hL F hX hbl hbA hcs hk hkL hP hS hl hA hM hok hokh hoks (fun H locs C ls a b2 d f2 => ih _ (by omega) _ _ _ _ ⟨k + 1, rfl, by omega, d, f2⟩ a b2)
                                  · by_cases k19 : x0 &&& 31 = 16
                                    · refine lv_tableIn (off := 552) (tgt := 584) F.1 F.2.1 dL_law_32 (by rw [k19]; decide) (by rw [k19]; decide) (by rw [k19]; rfl) (by decide) ?_
                                      exact law_case_16 hI hL F hX hbl hbA hcs hk hkL hP hS hl hA hM hok hokh hoks (fun H locs C ls a b2 d f2 => ih _ (by omega) _ _ _ _ ⟨k + 1, rfl, by omega, d, f2⟩ a b2)
                                    · by_cases k20 : x0 &&& 31 = 17
                                      · refine lv_tableIn (off := 565) (tgt := 597) F.1 F.2.1 dL_law_32 (by rw [k20]; decide) (by rw [k20]; decide) (by rw [k20]; rfl) (by decide) ?_
                                        exact law_case_17 hI hL F hX hbl hbA hcs hk hkL hP hS hl hA hM hok hokh hoks (fun H locs C ls a b2 d f2 => ih _ (by omega) _ _ _ _ ⟨k + 1, rfl, by omega, d, f2⟩ a b2)
                                      · by_cases k21 : x0 &&& 31 = 18
                                        · refine lv_tableIn (off := 578) (tgt := 610) F.1 F.2.1 dL_law_32 (by rw [k21]; decide) (by rw [k21]; decide) (by rw [k21]; rfl) (by decide) ?_
                                          exact law_case_18 hI hL F hX hbl hbA hcs hk hkL hP hS hl hA hM hok hokh hoks (fun H locs C ls a b2 d f2 => ih _ (by omega) _ _ _ _ ⟨k + 1, rfl, by omega, d, f2⟩ a b2)
                                        · by_cases k22 : x0 &&& 31 = 19
                                          · refine lv_tableIn (off := 591) (tgt := 623) F.1 F.2.1 dL_law_32 (by rw [k22]; decide) (by rw [k22]; decide) (by rw [k22]; rfl) (by decide) ?_
                                            exact law_case_19 hI hL F hX hbl hbA hcs hk hkL hP hS hl hA hM hok hokh hoks (fun H locs C ls a b2 d f2 => ih _ (by omega) _ _ _ _ ⟨k + 1, rfl, by omega, d, f2⟩ a b2)
                                          · by_cases k23 : x0 &&& 31 = 20
                                            · refine lv_tableIn (off := 604) (tgt := 636) F.1 F.2.1 dL_law_32 (by rw [k23]; decide) (by rw [k23]; decide) (by rw [k23]; rfl) (by decide) ?_
                                              exact law_case_20 hI hL F hX hbl hbA hcs hk hkL hP hS hl hA hM hok hokh hoks (fun H locs C ls a b2 d f2 => ih _ (by omega) _ _ _ _ ⟨k + 1, rfl, by omega, d, f2⟩ a b2)
                                            · by_cases k24 : x0 &&& 31 = 21
                                              · refine lv_tableIn (off := 627) (tgt := 659) F.1 F.2.1 dL_law_32 (by rw [k24]; decide) (by rw [k24]; decide) (by rw [k24]; rfl) (by decide) ?_
                                                exact law_case_21 hI hL F hX hbl hbA hcs hk hkL hP hS hl hA hM hok hokh hoks (fun H locs C ls a b2 d f2 => ih _ (by omega) _ _ _ _ ⟨k + 1, rfl, by omega, d, f2⟩ a b2)
                                              · refine lv_tableOut (tgt := 682) F.1 F.2.1 dL_law_32 (by have := lv_neT k3 (a := 0) rfl; have := lv_neT k4 (a := 1) rfl; have := lv_neT k5 (a := 2) rfl; have := lv_neT k6 (a := 3) rfl; have := lv_neT k7 (a := 4) rfl; have := lv_neT k8 (a := 5) rfl; have := lv_neT k9 (a := 6) rfl; have := lv_neT k10 (a := 7) rfl; have := lv_neT k11 (a := 8) rfl; have := lv_neT k12 (a := 9) rfl; have := lv_neT k13 (a := 10) rfl; have := lv_neT k14 (a := 11) rfl; have := lv_neT k15 (a := 12) rfl; have := lv_neT k16 (a := 13) rfl; have := lv_neT k17 (a := 14) rfl; have := lv_neT k18 (a := 15) rfl; have := lv_neT k19 (a := 16) rfl; have := lv_neT k20 (a := 17) rfl; have := lv_neT k21 (a := 18) rfl; have := lv_neT k22 (a := 19) rfl; have := lv_neT k23 (a := 20) rfl; have := lv_neT k24 (a := 21) rfl; omega) (by decide) ?_
                                                exact law_case_99 hI hL F hX hbl hbA hcs hk hkL hP hS hl hA hM hok hokh hoks (fun H locs C ls a b2 d f2 => ih _ (by omega) _ _ _ _ ⟨k + 1, rfl, by omega, d, f2⟩ a b2)
