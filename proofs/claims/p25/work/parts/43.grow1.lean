/-! Making objects whole -/
/-- what a constructor leaves: its object at o, the new places behind, all before o as it was -/
def gMk (C : Nat → va_E) (o kk : Nat) (is : (Nat → Nat) → (Nat → va_E) → Nat → Prop) : (Nat → Nat) → Nat → (Nat → va_E) → Prop := fun ad' N' C' => N' = o + 1 + kk ∧ (∀ j, j < o → C' j = C j) ∧ is ad' C' o
section GROW4
variable {p : Program} {l : Launch} {e : Env} {R : Room} {s : State} {m : MethodId} {args : Array Value} {below : List Frame} {meth : Method} {c : Code} {H : Heap} {locs : List Loc} {cells slots : Nat} {Q : State → Prop}
variable {cc : ByteArray} {pc : Nat} {ls : Array Slot} {rest : List Value} {D : va_G} {Y : Nat → ClassId} {ad ad0 : Nat → Nat} {N N0 sz : Nat} {C C1 : Nat → va_E} {own : String} {nL : Nat}
/-- new, dup, the constructor's call -/
theorem g_mk (F : gFix p s m c args cc own nL D Y ad0 N0 sz) (hP : wP D ad N C H) (hD : va_D (gA ad0 N0 sz) (wld ad N C)) (hS : va_S (gA ad0 N0 sz) s.heap H locs) {Cn : String} {T : u_T} {Nf ci index : Nat} (hin : ∀ w ∈ u_ws Cn T Nf, w ∈ Wall) (ty0 : Nat → FieldType) (hty : ∀ k, k < Nf → parseFieldDescriptor (T k).2.2.1 = some (ty0 k)) (hcl : Cond.classLink own index Cn ∈ Wall) (hinst : Cond.instantiable Cn Nf ∈ Wall) (hini : Cond.initialized Cn ∈ Wall) (hc : vwCl[ci]? = some (Cn, T, Nf)) {fs : List Value} (hfs : ∀ j, j < Nf → defaultValue (ty0 j) = vp_V fs j)
    {y : MethodName} {bytes : ByteArray} {maxL mc ms k0 : Nat} {rm : Room} {is : (Nat → Nat) → (Nat → va_E) → Nat → Prop} (hM : ∀ (ad : Nat → Nat) (N sz : Nat), wI ad N → ∀ (C : Nat → va_E) (o : Nat), o + 1 = N → C o = .inr (ci, fs) → Met l y (wm y bytes maxL none) rm (gPc D Y ad N sz [.ref (ad o)] C) (gQ D ad N sz (gMk C o k0 is)) mc ms (gA ad N sz)) {idx2 : Nat} (cw : CallB R s args own idx2 y bytes maxL none (wm y bytes maxL none) rm mc ms 0 ∧ y.name = "<init>" ∧ (Cond.instanceMethod y).before args s = true) (hsz : ls.size = nL) (hW : (rest.map fun v => v.category).sum ≤ 7) (hcells : cells + 1 + mc ≤ R.cells) (hslots : slots + Nf + ms ≤ R.slots)
    (h1 : decode cc pc = .ok (.new index, 3)) (h2 : decode cc (pc + 3) = .ok (.dup, 1)) (h3 : decode cc (pc + 3 + 1) = .ok (.invokespecial idx2, 3))
    (kk : ∀ (ad1 : Nat → Nat) (C1 : Nat → va_E) (H1 : Heap) (locs1 : List Loc), (∀ i, i < N → ad1 i = ad i) → (∀ j, j < N → C1 j = C j) → is ad1 C1 N → wP D ad1 (N + 1 + k0) C1 H1 → va_D (gA ad0 N0 sz) (wld ad1 (N + 1 + k0) C1) → va_S (gA ad0 N0 sz) s.heap H1 locs1 → W p l e R s m args below meth c H1 locs1 (cells + 1 + mc) (slots + Nf + ms) Q (F0 m (pc + 3 + 1 + 3) ls (.ref (ad1 N) :: rest))) : W p l e R s m args below meth c H locs cells slots Q (F0 m pc ls rest) := by
  refine g_new F hP hD hS hin ty0 hty hcl hinst hini hc hfs (by omega) (by omega) h1 (fun q H1 hP1 hD1 hS1 => ?_)
  obtain ⟨ad1, ea1⟩ : ∃ z, z = va_up ad N q := ⟨_, rfl⟩
  have eN : q = ad1 N := by rw [ea1, va_up_self]
  rw [← ea1] at hP1 hD1
  rw [eN]
  refine lv_dup F.1 F.2.1 h2 rfl ?_
  refine g_init F hP1 hD1 hS1 (h := N) (as := []) (rest := .ref (ad1 N) :: rest) (hM ad1 (N + 1) H1.size (wI_of hD1) _ N rfl (va_up_self _ _ _)) cw rfl hsz rfl (by rw [List.map_cons, List.sum_cons, show Value.category (.ref (ad1 N)) = 1 from rfl]; omega) h3 ⟨hcells, hslots⟩ (fun ad2 N2 C2 H2 locs2 hN2 hA2 hpost hP2 hD2 hS2 => ?_)
  obtain ⟨e2, hC2, his⟩ := hpost
  subst e2
  rw [show ad1 N = ad2 N from (hA2 N (by omega)).symm]
  exact kk ad2 C2 H2 locs2 (fun i hi => by rw [hA2 i (by omega), ea1, va_up_ne _ _ (by omega)]) (fun j hj => by rw [hC2 j hj, va_up_ne _ _ (by omega)]) his hP2 hD2 hS2
/-- a field is read -/
theorem g_get (F : gFix p s m c args cc own nL D Y ad0 N0 sz) (hP : wP D ad N C H) {a h ci : Nat} {fs : List Value} (ha : a = ad h) (hh : h < N) (hC : C h = .inr (ci, fs)) {Cn : String} {T : u_T} {Nf index : Nat} (hc : vwCl[ci]? = some (Cn, T, Nf)) (hin : ∀ w ∈ u_ws Cn T Nf, w ∈ Wall) (k : Nat) (hk : k < Nf) (hlink : Cond.fieldLink own index (T k).1 (T k).2.1 (T k).2.2.1 ∈ Wall) {v : Value} (hv : fs[k]? = some v) (hdg : decode cc pc = .ok (.getfield index, 3))
    (kk : W p l e R s m args below meth c H locs cells slots Q (F0 m (pc + 3) ls (v :: rest))) : W p l e R s m args below meth c H locs cells slots Q (F0 m pc ls (.ref a :: rest)) := by
  subst ha
  exact va_get F.1 F.2.1 (Ts := Wall) F.2.2.2.2.1 hin F.2.2.2.1 F.2.2.2.2.2.1 hP h (wld_at hh hC) hc k hk (F.2.2.2.2.1 _ hlink) (fun _ h9 => h9) hv hdg kk
/-- a number is stored -/
theorem g_iast (F : gFix p s m c args cc own nL D Y ad0 N0 sz) (hP : wP D ad N C H) (hD : va_D (gA ad0 N0 sz) (wld ad N C)) (hS : va_S (gA ad0 N0 sz) s.heap H locs) {a h n : Nat} {f : Nat → Int32} (ha : a = ad h) (hh : h < N) (hC : C h = .inl (Y 0, n, .inl f)) {i x : Int32} {k : Nat} (hi : i = nI k) (hk : k < n) (hn : n < 2147483648) (hu : ∀ j, va_up C h (.inl (Y 0, n, .inl (upd f k x))) j = C1 j) (hdg : decode cc pc = .ok (.iastore, 1))
    (kk : ∀ (H1 : Heap) (locs1 : List Loc), wP D ad N C1 H1 → va_D (gA ad0 N0 sz) (wld ad N C1) → va_S (gA ad0 N0 sz) s.heap H1 locs1 → W p l e R s m args below meth c H1 locs1 cells slots Q (F0 m (pc + 1) ls rest)) : W p l e R s m args below meth c H locs cells slots Q (F0 m pc ls (.int x :: .int i :: .ref a :: rest)) := by
  subst hi
  subst ha
  refine va_iast F.1 F.2.1 F.2.2.2.2.2.1 hP hD hS h 0 (wld_at hh hC) rfl (vp_in_nI hk hn) hdg (fun H1 locs1 hP1 hD1 hS1 => ?_)
  rw [nI_clamp (Nat.lt_trans hk hn), wld_set hu] at hP1 hD1
  exact kk H1 locs1 hP1 hD1 hS1
/-- a new State[] -/
theorem g_newq (F : gFix p s m c args cc own nL D Y ad0 N0 sz) (hP : wP D ad N C H) (hD : va_D (gA ad0 N0 sz) (wld ad N C)) (hS : va_S (gA ad0 N0 sz) s.heap H locs) {index : Nat} (hcl : Cond.classLink own index "HoopStairs$State" ∈ Wall) {n : Int32} {n' : Nat} (hn : ¬ n < 0) (hN : n.toNatClampNeg = n') (hbytes : n' * 4 ≤ 536870912) (hcells : cells + 1 ≤ R.cells) (hslots : slots + n' ≤ R.slots) (hdg : decode cc pc = .ok (.anewarray index, 3))
    (kk : ∀ (q : Nat) (H1 : Heap), wP D (va_up ad N q) (N + 1) (va_up C N (.inl (Y 2, n', .inr (.inr (.inr (.inr (fun _ => none))))))) H1 → va_D (gA ad0 N0 sz) (wld (va_up ad N q) (N + 1) (va_up C N (.inl (Y 2, n', .inr (.inr (.inr (.inr (fun _ => none)))))))) → va_S (gA ad0 N0 sz) s.heap H1 locs → W p l e R s m args below meth c H1 locs (cells + 1) (slots + n') Q (F0 m (pc + 3) ls (.ref q :: rest))) : W p l e R s m args below meth c H locs cells slots Q (F0 m pc ls (.int n :: rest)) :=
  va_newq F.1 F.2.1 F.2.2.2.1 (F.2.2.2.2.1 _ hcl) F.2.2.2.2.2.2.1.1.2.1 F.2.2.2.2.2.1 hP hD hS F.all hn hN hbytes hcells hslots hdg (fun q cA H1 hK1 hP1 hD1 hS1 => by
    obtain ⟨_, _, _, _, _, e1⟩ := (hK1.2 4 (cA, .object "HoopStairs$State") rfl).2
    obtain ⟨_, _, _, _, _, e2⟩ := (F.2.2.2.2.2.1.2 2 _ rfl).2
    have e3 : Y 2 = cA := Option.some.inj (e2.symm.trans e1)
    subst e3
    rw [wld_push] at hP1 hD1
    exact kk q H1 hP1 hD1 hS1)
/-- a state into a State[] -/
theorem g_aast (F : gFix p s m c args cc own nL D Y ad0 N0 sz) (hP : wP D ad N C H) (hD : va_D (gA ad0 N0 sz) (wld ad N C)) (hS : va_S (gA ad0 N0 sz) s.heap H locs) {a h n v hv : Nat} {f : Nat → Option Nat} {vs : List Value} (ha : a = ad h) (hh : h < N) (hC : C h = .inl (Y 2, n, .inr (.inr (.inr (.inr f))))) (hva : v = ad hv) (hhv : hv < N) (hCv : C hv = .inr (6, vs)) {i : Int32} {k : Nat} (hi : i = nI k) (hk : k < n) (hn : n < 2147483648) (hu : ∀ j, va_up C h (.inl (Y 2, n, .inr (.inr (.inr (.inr (va_up f k (some v))))))) j = C1 j) (hdg : decode cc pc = .ok (.aastore, 1))
    (kk : ∀ (H1 : Heap) (locs1 : List Loc), wP D ad N C1 H1 → va_D (gA ad0 N0 sz) (wld ad N C1) → va_S (gA ad0 N0 sz) s.heap H1 locs1 → W p l e R s m args below meth c H1 locs1 cells slots Q (F0 m (pc + 1) ls rest)) : W p l e R s m args below meth c H locs cells slots Q (F0 m pc ls (.ref v :: .int i :: .ref a :: rest)) := by
  subst hi
  subst ha
  subst hva
  refine va_astq F.1 F.2.1 F.2.2.2.2.2.1 hP hD hS h 2 hv 6 (wld_at hh hC) rfl (wld_at hhv hCv) rfl (vp_in_nI hk hn) hdg (fun H1 locs1 hP1 hD1 hS1 => ?_)
  rw [nI_clamp (Nat.lt_trans hk hn), wld_set hu] at hP1 hD1
  exact kk H1 locs1 hP1 hD1 hS1
/-- FIRST is cloned -/
theorem g_clone (F : gFix p s m c args cc own nL D Y ad0 N0 sz) (hsz : ls.size = nL) (hP : wP D ad N C H) (hD : va_D (gA ad0 N0 sz) (wld ad N C)) (hS : va_S (gA ad0 N0 sz) s.heap H locs) {index a : Nat} {cell : Cell} {v : Nat → Int32} (h1 : s.heap[a]? = some cell) (h2 : s.isArrayOf cell .int) (h3 : cell.vm ≠ .unknown) (h4 : s.vm.findClass "[I" = some cell.cls) (h5 : cell.slots.size = 4) (h6 : ∀ j : Nat, j < 4 → cell.slots[j]? = some (.int (v j))) (h7 : ¬ gA ad0 N0 sz a)
    (hlink : Cond.methodLink own index ⟨"[I", "clone", "()Ljava/lang/Object;"⟩ ∈ Wall) (hframes : 1 ≤ R.frames) (hlocals : (rest.map fun v => v.category).sum + 14 ≤ R.locals) (hcells : cells + 1 ≤ R.cells) (hslots : slots + 4 ≤ R.slots) (hdg : decode cc pc = .ok (.invokevirtual index, 3))
    (kk : ∀ (q : Nat) (H1 : Heap), wP D (va_up ad N q) (N + 1) (va_up C N (.inl (Y 0, 4, .inl v))) H1 → va_D (gA ad0 N0 sz) (wld (va_up ad N q) (N + 1) (va_up C N (.inl (Y 0, 4, .inl v)))) → va_S (gA ad0 N0 sz) s.heap H1 locs → W p l e R s m args below meth c H1 locs (cells + 1) (slots + 4) Q (F0 m (pc + 3) ls (.ref q :: rest))) : W p l e R s m args below meth c H locs cells slots Q (F0 m pc ls (.ref a :: rest)) := by
  have hW := F.2.2.2.2.1
  have hK := F.2.2.2.2.2.1
  have hn0 : s.vm.findClass "[I" = some (Y 0) := va_nm_int (hK.2 0 _ rfl).2
  have ecl : cell.cls = Y 0 := Option.some.inj (h4.symm.trans hn0)
  obtain ⟨c0, t0', f1, f2, f3⟩ := Cond.castable_spec (va_Nw.use (A := args) rfl (F.2.2.2.2.2.2.1.1.1 _ nw_clone))
  cases h4.symm.trans f1
  have hcellE : ({ cls := cell.cls, slots := cell.slots } : Cell) = vp_cell (Y 0) (4, .inl v) := by
    rw [vp_cell_i]
    have es : cell.slots = (arrV (Y 0) 4 (fun j => .int (v j))).slots := by
      apply Array.ext_getElem?
      intro i
      by_cases hi : i < 4
      · rw [h6 i hi, arrV_read _ _ hi]
      · rw [Array.getElem?_eq_none (by omega), Array.getElem?_eq_none (by rw [arrV_size]; omega)]
    rw [es, ecl]
    rfl
  intro T hT X
  have hcellT : T.heap[a]? = some cell := by rw [hT, hS.2.1 a (Array.getElem?_eq_some_iff.mp h1).1 h7]; exact h1
  have h2a := h2
  obtain ⟨-, kS, hkS, compS, hkindS⟩ := h2a
  obtain ⟨-, kA, hkA, comp, hkind⟩ := State.isArrayOf_alike X.warmed.alike h2
  obtain ⟨vm', X', st⟩ := X.cloneArray F.1 F.2.2.2.1 (hW _ hlink) (hW _ mw_60) (hW _ mw_61) (hW _ mw_62) (hW _ mw_63) (a := a) (cell := cell) hcellT h2.1 h3 h4 f2 f3
    (fun i v9 hv => by
      have hk' : T.vm.classes[cell.cls]? = some kA := hkA
      have hi : i < 4 := by rw [← h5]; exact (Array.getElem?_eq_some_iff.mp hv).1
      rw [h6 i hi] at hv
      cases hv
      have hf : fits .int (.int (v i)) = true := rfl
      simpa [State.fitsSlot, State.slotType?, hk', hkind] using hf)
    (g := F0 m pc ls (.ref a :: rest)) rfl (by rw [F.2.2.1, hsz]) rfl (by rw [F.2.1]; exact hdg) hframes (by show 2 * 0 + _ + 14 ≤ _; omega) hcells (by rw [h5]; exact hslots) (hloader := Vm.clonesLoader_of_array hkS hkindS)
  rw [hcellE, h5] at X'
  generalize hH1 : H.push (vp_cell (Y 0) (4, .inl v)) = H1
  have z1 : H1.size = H.size + 1 := by rw [← hH1, Array.size_push]
  have e1 : H1[H.size]? = some (vp_cell (Y 0) (4, .inl v)) := by rw [← hH1, Array.getElem?_push_size]
  have o1 : ∀ q : Nat, q < H.size → H1[q]? = H[q]? := fun q hq => by rw [← hH1, Array.getElem?_push, if_neg (Nat.ne_of_lt hq)]
  have hk : ∀ (k : Nat) (y : Nat × va_E), (wld ad N C)[k]? = some y → H1[y.1]? = H[y.1]? := fun k y hy => o1 y.1 ((hP k y hy).lt)
  have hP1 : va_P D vwCl (wld ad N C ++ [(H.size, .inl (Y 0, 4, .inl v))]) H1 := (hP.kept hk).app (fun k y hy => by
      have hz : k < 1 := (List.getElem?_eq_some_iff.mp hy).1
      rw [show k = 0 by omega] at hy
      cases hy
      exact e1)
  have hD1 : va_D (gA ad0 N0 sz) (wld ad N C ++ [(H.size, .inl (Y 0, 4, .inl v))]) := hD.push hP rfl (F.all _ hS.1)
  rw [wld_push] at hP1 hD1
  obtain ⟨t, b1, b2⟩ := kk H.size H1 hP1 hD1 ⟨Nat.le_trans hS.1 (by omega), fun y h1 h2 => (o1 y (Nat.lt_of_lt_of_le h1 hS.1)).trans (hS.2.1 y h1 h2), hS.2.2⟩
    ((T.setVm vm').pushCell (vp_cell (Y 0) (4, .inl v))) (by rw [← hH1, ← hT]; rfl) X'
  refine ⟨t, st t ?_, b2⟩
  rw [hcellE, hT]
  exact b1
theorem mna_wld {n q : Nat} {r : Nat → Nat} {f : Nat → va_E} {x y : va_E} : (wld ad N C ++ [(q, x)]) ++ va_pl ([] ++ (List.range n).map r) (vr_up f ((List.range n).map r) y) = wld (fun i => if i < N then ad i else if i = N then q else r (i - (N + 1))) (N + 1 + n) (fun i => if i < N then C i else if i = N then x else y) := by
  have e1 : va_pl ([] ++ (List.range n).map r) (vr_up f ((List.range n).map r) y) = (List.range n).map (fun i => (r i, y)) := by
    unfold va_pl
    rw [List.nil_append, List.map_map]
    apply List.map_congr_left
    intro i hi
    show (r i, vr_up f ((List.range n).map r) y (r i)) = _
    rw [vr_up_in (List.mem_map.mpr ⟨i, hi, rfl⟩)]
  rw [e1]
  apply List.ext_getElem?
  intro j
  have hlen : (wld ad N C ++ [(q, x)]).length = N + 1 := by rw [List.length_append, wld_len]; rfl
  by_cases h : j < N + 1
  · rw [List.getElem?_append_left (by omega), wld_push, wld_at h rfl, wld_at (show j < N + 1 + n by omega) rfl]
    by_cases h2 : j < N
    · rw [va_up_ne _ _ (by omega), va_up_ne _ _ (by omega), if_pos h2, if_pos h2]
    · rw [show j = N by omega, va_up_self, va_up_self, if_neg (by omega), if_pos rfl, if_neg (by omega), if_pos rfl]
  · by_cases h3 : j < N + 1 + n
    · rw [List.getElem?_append_right (by omega), hlen, wld_at h3 rfl, List.getElem?_map, List.getElem?_range (by omega)]
      show some (r (j - (N + 1)), y) = _
      rw [if_neg (by omega), if_neg (by omega), if_neg (by omega), if_neg (by omega)]
    · rw [List.getElem?_eq_none (by rw [List.length_append, hlen, List.length_map, List.length_range]; omega), List.getElem?_eq_none (by rw [wld_len]; omega)]
/-- a new int[n][k]: the grid and its columns -/
theorem g_mna (F : gFix p s m c args cc own nL D Y ad0 N0 sz) (hP : wP D ad N C H) (hD : va_D (gA ad0 N0 sz) (wld ad N C)) (hS : va_S (gA ad0 N0 sz) s.heap H locs) {index : Nat} (hcl : Cond.classLink own index "[[I" ∈ Wall) {n k : Int32} {N' K' : Nat} (hn : ¬ n < 0) (hk : ¬ k < 0) (hN : n.toNatClampNeg = N') (hM : k.toNatClampNeg = K') (hb1 : N' * 4 ≤ 536870912) (hb2 : K' * 4 ≤ 536870912) (hb3 : K' ≤ 536870912) (hcells : cells + (1 + N') ≤ R.cells) (hslots : slots + (N' + N' * K') ≤ R.slots) (hdg : decode cc pc = .ok (.multianewarray index 2, 4))
    (kk : ∀ (ad1 : Nat → Nat) (C1 : Nat → va_E) (H1 : Heap), (∀ i, i < N → ad1 i = ad i) → (∀ j, j < N → C1 j = C j) → (∃ g : Nat → Option Nat, C1 N = .inl (Y 3, N', .inr (.inr (.inr (.inr g)))) ∧ ∀ i, i < N' → g i = some (ad1 (N + 1 + i))) → (∀ i, i < N' → C1 (N + 1 + i) = .inl (Y 0, K', .inl (fun _ => 0))) → wP D ad1 (N + 1 + N') C1 H1 → va_D (gA ad0 N0 sz) (wld ad1 (N + 1 + N') C1) → va_S (gA ad0 N0 sz) s.heap H1 locs → W p l e R s m args below meth c H1 locs (cells + 1 + N') (slots + N' + N' * K') Q (F0 m (pc + 4) ls (.ref (ad1 N) :: rest))) : W p l e R s m args below meth c H locs cells slots Q (F0 m pc ls (.int k :: .int n :: rest)) := by
  have hK := F.2.2.2.2.2.1
  have e0 : wld ad N C = wld ad N C ++ va_pl [] (fun _ => .inl (Y 0, 0, .inl (fun _ => 0))) := (List.append_nil _).symm
  rw [e0] at hD
  refine va_mna (X := wld ad N C) (L := []) (f := fun _ => .inl (Y 0, 0, .inl (fun _ => 0))) (ty := .int) (cy := Y 0) (z := (K', .inl (fun _ => 0))) F.1 F.2.1 F.2.2.2.1 (F.2.2.2.2.1 _ hcl) F.2.2.2.2.2.2.1.1.2.2 (F.2.2.2.2.1 _ mw_50) (va_nm_int (hK.2 0 _ rfl).2) hK (by rw [← e0]; exact hP) hD hS F.all hn hk hN hM hb1 hb2 hb3 rfl rfl hcells hslots (fun c9 => by rw [vp_cell_i]; exact arrV_new _ _ _) hdg (fun q r cA H1 hr1 hr2 hK1 hP1 hD1 hS1 => ?_)
  have e1 : s.vm.findClass ("[" ++ (FieldType.array .int).toString) = some cA := (hK1.2 4 (cA, .array .int) rfl).2
  have e2 : s.vm.findClass ("[" ++ (FieldType.array .int).toString) = some (Y 3) := (hK.2 3 _ rfl).2
  have e3 : Y 3 = cA := Option.some.inj (e2.symm.trans e1)
  subst e3
  rw [mna_wld] at hP1 hD1
  obtain ⟨ad1, ea1⟩ : ∃ z, z = (fun i => if i < N then ad i else if i = N then q else r (i - (N + 1))) := ⟨_, rfl⟩
  rw [← ea1] at hP1 hD1
  have eN : q = ad1 N := by rw [ea1]; show q = if N < N then ad N else if N = N then q else _; rw [if_neg (by omega), if_pos rfl]
  have er : ∀ i, i < N' → r i = ad1 (N + 1 + i) := fun i hi => by rw [ea1]; show _ = if N + 1 + i < N then ad _ else if N + 1 + i = N then q else r (N + 1 + i - (N + 1)); rw [if_neg (by omega), if_neg (by omega), show N + 1 + i - (N + 1) = i by omega]
  rw [eN]
  refine kk ad1 _ H1 (fun i hi => by rw [ea1]; exact if_pos hi) (fun j hj => if_pos hj) ⟨_, by show (if N < N then C N else if N = N then _ else _) = _; rw [if_neg (by omega), if_pos rfl], fun i hi => by show (if i < N' then some (r i) else none) = _; rw [if_pos hi, er i hi]⟩ (fun i hi => by show (if N + 1 + i < N then C _ else if N + 1 + i = N then _ else _) = _; rw [if_neg (by omega), if_neg (by omega)]) hP1 hD1 hS1
end GROW4

