/-! The law, from its entry -/
theorem isCls0_mv {Y : Nat → ClassId} {ad ad' : Nat → Nat} {C C' : Nat → va_E} {b : Nat} (h : isCls0 Y ad C b) (hC : ∀ j, b ≤ j → j < b + 170 → C' j = C j) (hA : ∀ j, b ≤ j → j < b + 170 → ad' j = ad j) : isCls0 Y ad' C' b := by
  obtain ⟨h1, ⟨h2, q, h3, h4⟩, ⟨q2, h5, h6⟩, h7, ⟨x1, x2, x3, h8⟩, h9, ⟨ft, gt, h10⟩, h11⟩ := h
  refine ⟨?_, ⟨?_, q, by rw [hC _ (by omega) (by omega), h3], fun i hi => by rw [h4 i hi, hA _ (by omega) (by omega)]⟩, ⟨q2, by rw [hC _ (by omega) (by omega), h5], fun i hi => ?_⟩, by rw [hC _ (by omega) (by omega), h7], ⟨x1, x2, x3, ?_⟩, by rw [hC _ (by omega) (by omega), h9], ⟨ft, gt, by rw [hC _ (by omega) (by omega), h10]⟩, fun k hk => ?_⟩
  · rw [hC _ (by omega) (by omega), h1, hA _ (by omega) (by omega), hA _ (by omega) (by omega), hA _ (by omega) (by omega), hA _ (by omega) (by omega), hA _ (by omega) (by omega), hA _ (by omega) (by omega)]
  · rw [hC _ (by omega) (by omega), h2, hA _ (by omega) (by omega)]
  · have := bs_in (k := 7 + i) (by omega)
    rw [h6 i hi, hA _ (by omega) (by omega)]
  · rw [hC _ (by omega) (by omega), h8]
    unfold pdV
    rw [hA _ (by omega) (by omega)]
  · have := bs_in hk
    exact isState_mv (h11 k hk) (fun j a c => hC j (by omega) (by omega)) (fun j a c => hA j (by omega) (by omega))
theorem clsA_of0 {Y : Nat → ClassId} {ad : Nat → Nat} {C : Nat → va_E} {o : Nat} (h : isCls0 Y ad C o) : clsA Y ad C o fr0 (fun _ => fr0) 0 (fun _ => fr0) (fun _ => 0) (fun _ => 0) 0 :=
  ⟨fun _ => fr0, fun _ => 0, 0, fun _ => 0, h, by decide, by decide, by decide, rfl, fun _ _ => rfl, rfl, rfl, rfl, rfl⟩
theorem J_fr0 : J (100 * ((0 : Nat) : Int)) fr0 := by
  have e4 : (fr0 4).toNatClampNeg = 0 := by decide
  refine ⟨⟨⟨by decide, by decide, by decide, by decide, by decide, fun j hj => ?_⟩, Or.inl rfl, fun q => absurd q (by decide), by decide⟩, fun k hk => ?_, ⟨by decide, by decide, by decide, by decide, fun r hr => ?_, fun q => absurd q (by decide)⟩⟩
  · have e : fr0 (62 + 5 * j) = 0 := if_neg (by omega)
    rw [e]
    decide
  · rw [e4] at hk
    exact absurd hk (Nat.not_lt_zero _)
  · have e : (fr0 20).toInt = 0 := by decide
    rw [e] at hr
    omega
set_option maxRecDepth 20000 in
set_option maxHeartbeats 4000000 in
theorem law_runs {p : Program} {l : Launch} {e : Env} {s : State} {m : MethodId} {below : List Frame} {meth : Method} {c : Code} {D : va_G} {Y : Nat → ClassId} {b L : Nat} {xs : Nat → Int32} (hL : L ≤ 260) (F : gFix p s m c #[Value.ref b] cL_law RL 4 D Y (fun _ => 0) 0 s.heap.size) (hX : va_X b L xs s s.heap) (hbl : b < s.heap.size) {Q : State → Prop} {ls : Array Slot} (hl : lv_has ls 4 [(0, .ref b)])
    (kx : ∀ (H : Heap) (ls : Array Slot), W p l e room_1 s m #[Value.ref b] below meth c H [] 600000 7302250 Q (F0 m 228 ls [.int 1])) : W p l e room_1 s m #[Value.ref b] below meth c s.heap [] 0 0 Q (F0 m 0 ls []) := by
  have hI0 : wI (fun _ => 0) 0 := fun i j hi => absurd hi (Nat.not_lt_zero _)
  obtain ⟨C0, eC0⟩ : ∃ z : Nat → va_E, z = fun _ => .inr (0, []) := ⟨_, rfl⟩
  have hP0 : wP D (fun _ => 0) 0 C0 s.heap := fun k q hk => absurd (wld_inv hk).1 (Nat.not_lt_zero _)
  have hD0 : va_D (gA (fun _ => 0) 0 s.heap.size) (wld (fun _ => 0) 0 C0) := gD hI0
  have hge : ∀ q, gA (fun _ => 0) 0 s.heap.size q → s.heap.size ≤ q := fun q h => by
    rcases h with ⟨i, hi, _⟩ | h
    · exact absurd hi (Nat.not_lt_zero _)
    · exact h
  refine g_mk (N := 0) F hP0 hD0 va_S.rf Wi_wsX70 tyX7 tyX7_ok mw_710 mw_1 mw_2 rfl fsX7 (fun ad N sz hI C o ho hC => c_X7_init l D Y ad N sz hI C o ho hC) (cwIm 0 F.2.2.2.2.1 (fun _ h => h) mw_9 mw_711 mw_8 mw_2 rfl rfl rfl ⟨by decide, by decide, by decide +kernel⟩ ⟨by decide, by decide⟩) hl.1 (Nat.le_of_ble_eq_true rfl) (by decide) (by decide) dL_law_0 dL_law_3 dL_law_4 (fun ad1 C1 H1 locs1 hA1 hB1 is1 hP1 hD1 hS1 => ?_)
  refine lv_astore_n (lv' := [(1, .ref (ad1 0)), (0, .ref b)]) F.1 F.2.1 dL_law_7 rfl hl (by decide) rfl (fun ls hl => ?_)
  refine lv_bipush (v := 8) F.1 F.2.1 dL_law_8 (by decide) ?_
  refine g_newa (N := 170) (atype := .int) F hP1 hD1 hS1 (t0 := 0) rfl (fun U cA h => h) rfl mw_50 (by decide) (n' := 8) rfl (by decide) (by decide) (by decide) dL_law_10 (fun q H2 hP2 hD2 hS2 => ?_)
  obtain ⟨ad2, ea2⟩ : ∃ z, z = va_up ad1 170 q := ⟨_, rfl⟩
  obtain ⟨C2, eC2⟩ : ∃ z, z = va_up C1 170 (.inl (Y 0, 8, .inl (fun _ => 0))) := ⟨_, rfl⟩
  have eq2 : q = ad2 170 := by rw [ea2, va_up_self]
  have hA2 : ∀ i, i < 170 → ad2 i = ad1 i := fun i hi => by rw [ea2, va_up_ne _ _ (by omega)]
  have hB2 : ∀ i, i < 170 → C2 i = C1 i := fun i hi => by rw [eC2, va_up_ne _ _ (by omega)]
  have hH2 : C2 170 = .inl (Y 0, 8, .inl (fun _ => 0)) := by rw [eC2, va_up_self]
  rw [← ea2, ← eC2] at hP2 hD2
  rw [eq2]
  refine lv_astore_n (lv' := [(2, .ref (ad2 170)), (1, .ref (ad1 0)), (0, .ref b)]) F.1 F.2.1 dL_law_12 rfl hl (by decide) rfl (fun ls hl => ?_)
  rw [← hA2 0 (by decide)] at hl
  have hP3 : wP D ad2 171 C2 H2 := hP2
  have hD3 : va_D (gA (fun _ => 0) 0 s.heap.size) (wld ad2 171 C2) := hD2
  have hI2 : wI ad2 171 := wI_of hD3
  have hsub : ∀ q, wA ad2 171 q → gA (fun _ => 0) 0 s.heap.size q := fun q ⟨i, hi, h⟩ => by rw [h]; exact wA_of hD3 hi
  have hbA : ¬ wA ad2 171 b := fun h => by have := hge _ (hsub _ h); omega
  refine va_forget (fun q hq => hge _ (hS2.2.2 q hq)) ?_
  have hS3 : va_S (wA ad2 171) s.heap H2 [] := ⟨hS2.1, fun q h1 _ => hS2.2.1 q h1 (fun h => by have := hge _ h; omega), fun _ h => by cases h⟩
  have F2 : wFix p s m c #[Value.ref b] cL_law RL 4 D Y ad2 171 := ⟨F.1, F.2.1, F.2.2.1, F.2.2.2.1, F.2.2.2.2.1, F.2.2.2.2.2.1, F.2.2.2.2.2.2.1.1, F.2.2.2.2.2.2.1.2.narrow hsub⟩
  refine law_body hI2 (Nat.le_refl _) hL F2 hX hbl hbA (by decide) (fun H locs ls hS => ?_) hP3 hS3 hl (clsA_of0 (isCls0_mv is1 (fun j _ h => hB2 j (by omega)) (fun j _ h => hA2 j (by omega)))) hH2 J_fr0
  refine va_forget (fun q hq => hge _ (hsub _ (hS.2.2 q hq))) ?_
  exact W.widen (by decide) (by decide) (kx H ls)
