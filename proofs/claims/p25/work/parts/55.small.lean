/-! p25: the law's small methods: low, size, cell -/
theorem low_in (v : Int32) {k : Nat} (hk : 0 < k) (hk2 : k ≤ 100) : ∃ j, j < k ∧ (v &&& 2147483647) - (v &&& 2147483647) / nI k * nI k = nI j := by
  obtain ⟨a, ha, e⟩ := pk_andE v (m := 2147483647) 31 (by decide)
  rw [e, pk_rem ha hk (by omega)]
  exact ⟨_, Nat.mod_lt _ hk, rfl⟩
theorem and1_in (v : Int32) : v &&& 1 = 0 ∨ v &&& 1 = 1 := by
  obtain ⟨a, ha, e⟩ := pk_andE v (m := 1) 1 (by decide)
  rw [e]
  have : a = 0 ∨ a = 1 := by omega
  rcases this with rfl | rfl
  · exact Or.inl rfl
  · exact Or.inr rfl
theorem nI_n0 {k : Nat} (h : 0 < k) (h2 : k < 2 ^ 31) : ¬ nI k = 0 := fun q => by have := (nI_eq (a := k) (b := 0) h2 (by decide)).mp q; omega
set_option maxRecDepth 20000 in
set_option maxHeartbeats 4000000 in
/-- the rest of a number -/
theorem c_L_low (l : Launch) (D : va_G) (Y : Nat → ClassId) (ad : Nat → Nat) (N : Nat) (hI : wI ad N) (C : Nat → va_E) (v : Int32) (k : Nat) (hk : 0 < k) (hk2 : k ≤ 100) : Met l yL_low (wm yL_low cL_low 2 (some .int)) { frames := 0, cells := 0, slots := 0, locals := 0 } (wPc D Y ad N [.int (v), .int (nI k)] C) (wQi D ad N (fun r C' => C' = C ∧ ∃ j, j < k ∧ r = nI j)) 0 0 (wA ad N) := by
  refine wMet RL rfl (by decide +kernel) (Nat.le_of_ble_eq_true rfl) (lv := [(0, .int (v)), (1, .int (nI k))]) rfl ?_
  intro p e s m below meth c ls F hr hlocks hP hl
  have hS : va_S (wA ad N) s.heap s.heap [] := va_S.rf
  refine lv_iload_n F.1 F.2.1 dL_low_0 rfl (lv_at hl 0 rfl) ?_
  refine lv_ldc F.1 F.2.1 F.2.2.2.1 (F.2.2.2.2.1 _ mw_732) dL_low_1 ?_
  refine lv_iand F.1 F.2.1 dL_low_3 ?_
  refine lv_iload_n F.1 F.2.1 dL_low_4 rfl (lv_at hl 1 rfl) ?_
  refine lv_irem F.1 F.2.1 dL_low_5 (nI_n0 hk (by omega)) ?_
  exact w_iret F hr hlocks hP hS dL_low_6 ⟨rfl, low_in v hk hk2⟩
set_option maxRecDepth 20000 in
set_option maxHeartbeats 4000000 in
/-- a number without its sign -/
theorem c_L_size (l : Launch) (D : va_G) (Y : Nat → ClassId) (ad : Nat → Nat) (N : Nat) (hI : wI ad N) (C : Nat → va_E) (x : Int32) : Met l yL_size (wm yL_size cL_size 1 (some .int)) { frames := 0, cells := 0, slots := 0, locals := 0 } (wPc D Y ad N [.int (x)] C) (wQi D ad N (fun r C' => C' = C ∧ r = iabs x)) 0 0 (wA ad N) := by
  refine wMet RL rfl (by decide +kernel) (Nat.le_of_ble_eq_true rfl) (lv := [(0, .int (x))]) rfl ?_
  intro p e s m below meth c ls F hr hlocks hP hl
  have hS : va_S (wA ad N) s.heap s.heap [] := va_S.rf
  refine lv_iload_n F.1 F.2.1 dL_size_0 rfl (lv_at hl 0 rfl) ?_
  refine lv_if_ge (tgt := 9) F.1 F.2.1 dL_size_1 (by decide) (fun c1 => ?_) (fun c1 => ?_)
  · refine lv_iload_n F.1 F.2.1 dL_size_9 rfl (lv_at hl 0 rfl) ?_
    exact w_iret F hr hlocks hP hS dL_size_10 ⟨rfl, (if_neg (i_nlt c1)).symm⟩
  · refine lv_iload_n F.1 F.2.1 dL_size_4 rfl (lv_at hl 0 rfl) ?_
    refine lv_ineg F.1 F.2.1 dL_size_5 ?_
    refine lv_goto (tgt := 10) F.1 F.2.1 dL_size_6 (by decide) ?_
    exact w_iret F hr hlocks hP hS dL_size_10 ⟨rfl, (if_pos (i_lt c1)).symm⟩
/-- a world beside the law's script -/
def wPx (D : va_G) (Y : Nat → ClassId) (ad : Nat → Nat) (N b L : Nat) (xs : Nat → Int32) (as : List Value) (C : Nat → va_E) : Array Value → State → Prop :=
  va_Pc as (fun U => wP D ad N C U.heap ∧ va_K D vwCl (tyH Y) U ∧ wEnv (wA ad N) U ∧ va_X b L xs U U.heap ∧ b < U.heap.size ∧ ¬ wA ad N b)
theorem wPx_blind {D : va_G} {Y : Nat → ClassId} {ad : Nat → Nat} {N b L : Nat} {xs : Nat → Int32} {as : List Value} {C : Nat → va_E} : FrameBlind (wPx D Y ad N b L xs as C) :=
  fun a U g mk q => ⟨q.1, q.2.1, va_K.moved (u := U) (U := U.calling g mk a) (Vm.Alike.refl U.vm) q.2.2.1, ⟨wN.same (u := U) (U := U.calling g mk a) rfl q.2.2.2.1.1, wSt.moved (u := U) (U := U.calling g mk a) (Vm.Alike.refl U.vm) q.2.2.2.1.2⟩, va_X.moved (u := U) (U := U.calling g mk a) (Vm.Alike.refl U.vm) q.2.2.2.2.1, q.2.2.2.2.2⟩
/-- a call of a static method that reads the script -/
theorem w_callx {p : Program} {l : Launch} {e : Env} {R : Room} {s : State} {m : MethodId} {args : Array Value} {below : List Frame} {meth : Method} {c : Code} {H : Heap} {locs : List Loc} {cells slots : Nat} {Q : State → Prop} {cc : ByteArray} {pc : Nat} {ls : Array Slot} {rest : List Value} {D : va_G} {Y : Nat → ClassId} {ad : Nat → Nat} {N : Nat} {C : Nat → va_E} {own : String} {nL : Nat} {b L : Nat} {xs : Nat → Int32}
    (F : wFix p s m c args cc own nL D Y ad N) (hP : wP D ad N C H) (hS : va_S (wA ad N) s.heap H locs) (hX : va_X b L xs s s.heap) (hbl : b < s.heap.size) (hbA : ¬ wA ad N b) {y : MethodName} {bytes : ByteArray} {maxL : Nat} {ret : Option FieldType} {rm : Room} {as : List Value} {post : Int32 → (Nat → va_E) → Prop} (hM : Met l y (wm y bytes maxL ret) rm (wPx D Y ad N b L xs as C) (wQi D ad N post) 0 0 (wA ad N)) {index n : Nat} (cw : CallB R s args own index y bytes maxL ret (wm y bytes maxL ret) rm 0 0 n ∧ (Cond.static y).before args s = true) (hn : as.length = n) (hsz : ls.size = nL) {st : List Value} (hst : st = as.reverse ++ rest) (hW : (rest.map fun v => v.category).sum ≤ 8) (hdg : decode cc pc = .ok (.invokestatic index, 3)) (hcs : cells ≤ R.cells ∧ slots ≤ R.slots)
    (kk : ∀ (r : Int32) (C' : Nat → va_E) (H1 : Heap) (locs1 : List Loc), post r C' → wP D ad N C' H1 → va_S (wA ad N) s.heap H1 locs1 → W p l e R s m args below meth c H1 locs1 cells slots Q (F0 m (pc + 3) ls (.int r :: rest))) : W p l e R s m args below meth c H locs cells slots Q (F0 m pc ls st) :=
  va_calli (va_runS (As := as) (rest := rest) ⟨F.1, F.2.1, F.2.2.1, F.2.2.2.1, F.2.2.2.2.1⟩ hM cw ⟨wPx_blind, fun U hU hW => ⟨rfl, by rw [hU]; exact hP, va_K.moved hW.alike F.2.2.2.2.2.1, wEnv_at F hS hU hW, by rw [hU]; exact (hX.kept (hS.2.1 b hbl hbA)).moved hW.alike, by rw [hU]; exact Nat.lt_of_lt_of_le hbl hS.1, hbA⟩⟩ rfl hn hsz hst (lv_room hW) hdg hcs) hS (fun q _ h => h) (fun q h => h) (fun r u t H1 locs1 ht hvm hw hB _ _ hS1 => kk r u H1 locs1 hw (by rw [← ht]; exact hB) hS1)
set_option maxRecDepth 20000 in
theorem cell_walk {p : Program} {l : Launch} {e : Env} {R : Room} {s : State} {m : MethodId} {below : List Frame} {meth : Method} {c : Code} {D : va_G} {Y : Nat → ClassId} {ad : Nat → Nat} {N : Nat} {C : Nat → va_E} {b L j : Nat} {xs : Nat → Int32} (hL : L ≤ 260) (hj : j < 1000) {args : Array Value} (F : wFix p s m c args cL_cell RL 2 D Y ad N) (hr : meth.sig.returnType = some .int) (hlocks : meth.locks = false) (hP : wP D ad N C s.heap) (hX : va_X b L xs s s.heap) (hbl : b < s.heap.size) (hbA : ¬ wA ad N b) {ls : Array Slot} (hl : lv_has ls 2 [(0, .ref b), (1, .int (nI j))]) : W p l e R s m args below meth c s.heap [] 0 0 (MQ below (wQi D ad N (fun r C' => C' = C)) args s 0 0 (wA ad N)) (F0 m 0 ls []) := by
  have hS : va_S (wA ad N) s.heap s.heap [] := va_S.rf
  refine lv_iload_n F.1 F.2.1 dL_cell_0 rfl (lv_at hl 1 rfl) ?_
  refine lv_aload_n F.1 F.2.1 dL_cell_1 rfl (lv_at hl 0 rfl) ?_
  refine va_slen F.1 F.2.1 hX hbl hbA hS dL_cell_2 ?_
  refine lv_icmp_ge (tgt := 12) F.1 F.2.1 dL_cell_3 (by decide) (fun c1 => ?_) (fun c1 => ?_)
  · refine lv_sipush (v := 7919) F.1 F.2.1 dL_cell_12 (by decide) ?_
    refine lv_iload_n F.1 F.2.1 dL_cell_15 rfl (lv_at hl 1 rfl) ?_
    refine lv_iconst (v := 3) F.1 F.2.1 dL_cell_16 (by decide) ?_
    refine lv_iadd F.1 F.2.1 dL_cell_17 ?_
    refine lv_imul F.1 F.2.1 dL_cell_18 ?_
    refine lv_iload_n F.1 F.2.1 dL_cell_19 rfl (lv_at hl 1 rfl) ?_
    refine lv_bipush (v := 11) F.1 F.2.1 dL_cell_20 (by decide) ?_
    refine lv_iadd F.1 F.2.1 dL_cell_22 ?_
    refine lv_imul F.1 F.2.1 dL_cell_23 ?_
    exact w_iret F hr hlocks hP hS dL_cell_24 rfl
  · refine lv_aload_n F.1 F.2.1 dL_cell_6 rfl (lv_at hl 0 rfl) ?_
    refine lv_iload_n F.1 F.2.1 dL_cell_7 rfl (lv_at hl 1 rfl) ?_
    refine va_sld F.1 F.2.1 hX hbl hbA hS (i := nI j) (vp_in_nI (Nat.not_le.mp (fun q => c1 (nI_le q (by omega)))) (by omega)) dL_cell_8 ?_
    refine lv_topi (fun v _ => ?_)
    refine lv_goto (tgt := 24) F.1 F.2.1 dL_cell_9 (by decide) ?_
    exact w_iret F hr hlocks hP hS dL_cell_24 rfl
theorem c_L_cell (l : Launch) (D : va_G) (Y : Nat → ClassId) (ad : Nat → Nat) (N : Nat) (C : Nat → va_E) {b L : Nat} {xs : Nat → Int32} (hL : L ≤ 260) (j : Nat) (hj : j < 1000) : Met l yL_cell (wm yL_cell cL_cell 2 (some .int)) { frames := 0, cells := 0, slots := 0, locals := 0 } (wPx D Y ad N b L xs [.ref b, .int (nI j)] C) (wQi D ad N (fun r C' => C' = C)) 0 0 (wA ad N) := by
  refine Met.ofW (cc := cL_cell) (maxL := 2) (ret := some .int) (by decide +kernel) rfl ?_
  intro p e s m args below meth c s₁ B hml hv
  obtain ⟨rfl, hP, hK, hE, hX, hbl, hbA⟩ := hv
  have hts := atoms_spec (ws := wm yL_cell cL_cell 2 (some .int)) B.pre
  have hl := lv_entry [Value.ref b, .int (nI j)] (n := 2) (Nat.le_of_ble_eq_true rfl)
  rw [lg_entry_eq]
  exact cell_walk hL hj ⟨B.exec, B.bytes, hml, findClass_of_methodNamed B.named, fun w hw => hts w (wm_in hw), hK, hE⟩ B.returns B.notSynchronized hP hX hbl hbA hl
