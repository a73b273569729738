/-! The world by places, a frame rule for free: every method is given the whole world (place i: the cell at ad i, holding C i) and says what C is behind it. Rows of the kit, said for such worlds. -/
def wld (ad : Nat → Nat) (N : Nat) (C : Nat → va_E) : va_W := (List.range N).map (fun i => (ad i, C i))
def wA (ad : Nat → Nat) (N : Nat) : Nat → Prop := fun q => ∃ i, i < N ∧ q = ad i
def wI (ad : Nat → Nat) (N : Nat) : Prop := ∀ i j, i < N → j < N → ad i = ad j → i = j
theorem wld_at {ad : Nat → Nat} {N : Nat} {C : Nat → va_E} {i : Nat} {e : va_E} (h : i < N) (hC : C i = e) : (wld ad N C)[i]? = some (ad i, e) := by
  subst hC
  unfold wld
  rw [List.getElem?_map, List.getElem?_range h]
  rfl
theorem wld_inv {ad : Nat → Nat} {N : Nat} {C : Nat → va_E} {k : Nat} {q : Nat × va_E} (h : (wld ad N C)[k]? = some q) : k < N ∧ q = (ad k, C k) := by
  by_cases hk : k < N
  · rw [wld_at hk rfl] at h
    cases h
    exact ⟨hk, rfl⟩
  · unfold wld at h
    rw [List.getElem?_map, List.getElem?_eq_none (by rw [List.length_range]; omega)] at h
    cases h
theorem wld_len {ad : Nat → Nat} {N : Nat} {C : Nat → va_E} : (wld ad N C).length = N := by
  unfold wld
  rw [List.length_map, List.length_range]
theorem wld_set {ad : Nat → Nat} {N : Nat} {C C1 : Nat → va_E} {i : Nat} {e : va_E} (h : ∀ j, va_up C i e j = C1 j) : (wld ad N C).set i (ad i, e) = wld ad N C1 := by
  apply List.ext_getElem?
  intro j
  by_cases hj : j < N
  · rw [wld_at hj rfl]
    by_cases hij : j = i
    · subst hij
      rw [List.getElem?_set_self (by rw [wld_len]; exact hj), ← h j, va_up_self]
    · rw [List.getElem?_set_ne (Ne.symm hij), wld_at hj rfl, ← h j, va_up_ne _ _ hij]
  · rw [List.getElem?_eq_none (by rw [List.length_set, wld_len]; omega), List.getElem?_eq_none (by rw [wld_len]; omega)]
theorem wld_congr {ad : Nat → Nat} {N : Nat} {C C1 : Nat → va_E} (h : ∀ j, j < N → C j = C1 j) : wld ad N C = wld ad N C1 := by
  unfold wld
  apply List.map_congr_left
  intro j hj
  rw [h j (List.mem_range.mp hj)]
theorem wD {ad : Nat → Nat} {N : Nat} {C : Nat → va_E} (hI : wI ad N) : va_D (wA ad N) (wld ad N C) :=
  ⟨fun i j x y hx hy hxy => by
    obtain ⟨hi, rfl⟩ := wld_inv hx
    obtain ⟨hj, rfl⟩ := wld_inv hy
    exact hI i j hi hj hxy, fun k q hk => by
    obtain ⟨h, rfl⟩ := wld_inv hk
    exact ⟨k, h, rfl⟩⟩
/-- the kinds of arrays: int, boolean, State[], int[][] -/
abbrev tyH (Y : Nat → ClassId) : List (ClassId × FieldType) := [(Y 0, .int), (Y 1, .boolean), (Y 2, .object "HoopStairs$State"), (Y 3, .array .int)]
abbrev wP (D : va_G) (ad : Nat → Nat) (N : Nat) (C : Nat → va_E) (H : Heap) : Prop := va_P D vwCl (wld ad N C) H
/-- what is fixed in a method's walk -/
def wFix (p : Program) (s : State) (m : MethodId) (c : Code) (args : Array Value) (cc : ByteArray) (own : String) (nL : Nat) (D : va_G) (Y : Nat → ClassId) (ad : Nat → Nat) (N : Nat) : Prop :=
  p.tables.exec = Jvm.exec ∧ c.code = cc ∧ c.maxLocals = nL ∧ s.vm.findClass own = some m.cls ∧ (∀ w ∈ Wall, w.before args s = true) ∧ va_K D vwCl (tyH Y) s ∧ wEnv (wA ad N) s
abbrev wPc (D : va_G) (Y : Nat → ClassId) (ad : Nat → Nat) (N : Nat) (as : List Value) (C : Nat → va_E) : Array Value → State → Prop :=
  va_Pc as (fun U => wP D ad N C U.heap ∧ va_K D vwCl (tyH Y) U ∧ wEnv (wA ad N) U)
abbrev wQi (D : va_G) (ad : Nat → Nat) (N : Nat) (post : Int32 → (Nat → va_E) → Prop) : Array Value → State → Outcome → State → Prop :=
  va_Qi post (fun (C' : Nat → va_E) t => wP D ad N C' t.heap) (wA ad N)
abbrev wQv (D : va_G) (ad : Nat → Nat) (N : Nat) (post : (Nat → va_E) → Prop) : Array Value → State → Outcome → State → Prop :=
  va_Qv post (fun (C' : Nat → va_E) t => wP D ad N C' t.heap) (wA ad N)
/-- a method's contract begins -/
theorem wMet {l : Launch} {y : MethodName} {b : ByteArray} {n : Nat} {ret : Option FieldType} {rm : Room} {D : va_G} {Y : Nat → ClassId} {ad : Nat → Nat} {N : Nat} {as : List Value} {C : Nat → va_E} {Qc : Array Value → State → Outcome → State → Prop} {free : Addr → Prop} (own : String) (ho : y.cls = own) (hy : plainName y.cls = true) (hlen : (lg_sl as).length ≤ n) {lv : List (Nat × Value)} (hlv : lv_args 0 as = lv)
    (k : ∀ p e s m below meth c ls, wFix p s m c as.toArray b own n D Y ad N → meth.sig.returnType = ret → meth.locks = false → wP D ad N C s.heap → lv_has ls n lv → W p l e rm s m as.toArray below meth c s.heap [] 0 0 (MQ below Qc as.toArray s 0 0 free) (F0 m 0 ls [])) :
    Met l y (wm y b n ret) rm (wPc D Y ad N as C) Qc 0 0 free := by
  refine Met.ofW (cc := b) (maxL := n) (ret := ret) hy rfl ?_
  intro p e s m args below meth c s₁ B hml hv
  obtain ⟨rfl, hP, hK, hE⟩ := hv
  have hts := atoms_spec (ws := wm y b n ret) B.pre
  have hl := lv_entry as (n := n) hlen
  rw [hlv] at hl
  rw [lg_entry_eq]
  exact k p e s m below meth c _ ⟨B.exec, B.bytes, hml, by rw [← ho]; exact findClass_of_methodNamed B.named, fun w hw => hts w (wm_in hw), hK, hE⟩ B.returns B.notSynchronized hP hl
theorem wPc_blind {D : va_G} {Y : Nat → ClassId} {ad : Nat → Nat} {N : Nat} {as : List Value} {C : Nat → va_E} : FrameBlind (wPc D Y ad N as C) :=
  fun a U g mk q => ⟨q.1, q.2.1, va_K.moved (u := U) (U := U.calling g mk a) (Vm.Alike.refl U.vm) q.2.2.1, wN.same (u := U) (U := U.calling g mk a) rfl q.2.2.2.1, wSt.moved (u := U) (U := U.calling g mk a) (Vm.Alike.refl U.vm) q.2.2.2.2⟩
theorem wEnv_at {p : Program} {s : State} {m : MethodId} {c : Code} {args : Array Value} {cc : ByteArray} {own : String} {nL : Nat} {D : va_G} {Y : Nat → ClassId} {ad : Nat → Nat} {N : Nat} {H : Heap} {locs : List Loc} {U : State} (F : wFix p s m c args cc own nL D Y ad N) (hS : va_S (wA ad N) s.heap H locs) (hU : U.heap = H) (hW : s.WarmedH U.vm) : wEnv (wA ad N) U :=
  ⟨wN.warm hW F.2.2.2.2.2.2.1, by rw [hU]; exact (F.2.2.2.2.2.2.2.kept hS.2.1).moved hW.alike⟩
section CORE
variable {p : Program} {l : Launch} {e : Env} {R : Room} {s : State} {m : MethodId} {args : Array Value} {below : List Frame} {meth : Method} {c : Code} {H : Heap} {locs : List Loc} {cells slots : Nat} {Q : State → Prop}
variable {cc : ByteArray} {pc : Nat} {ls : Array Slot} {rest : List Value} {D : va_G} {Y : Nat → ClassId} {ad : Nat → Nat} {N : Nat} {C C1 : Nat → va_E} {own : String} {nL : Nat}
theorem w_get (F : wFix p s m c args cc own nL D Y ad N) (hP : wP D ad N C H) {h ci : Nat} {fs : List Value} (hh : h < N) (hC : C h = .inr (ci, fs)) {Cn : String} {T : u_T} {Nf index : Nat} (hc : vwCl[ci]? = some (Cn, T, Nf)) (hin : ∀ w ∈ u_ws Cn T Nf, w ∈ Wall) (k : Nat) (hk : k < Nf) (hlink : Cond.fieldLink own index (T k).1 (T k).2.1 (T k).2.2.1 ∈ Wall) {v : Value} (hv : fs[k]? = some v) (hdg : decode cc pc = .ok (.getfield index, 3))
    (kk : W p l e R s m args below meth c H locs cells slots Q (F0 m (pc + 3) ls (v :: rest))) : W p l e R s m args below meth c H locs cells slots Q (F0 m pc ls (.ref (ad h) :: rest)) :=
  va_get F.1 F.2.1 (Ts := Wall) F.2.2.2.2.1 hin F.2.2.2.1 F.2.2.2.2.2.1 hP h (wld_at hh hC) hc k hk (F.2.2.2.2.1 _ hlink) (fun _ h9 => h9) hv hdg kk
theorem w_put (F : wFix p s m c args cc own nL D Y ad N) (hI : wI ad N) (hP : wP D ad N C H) (hS : va_S (wA ad N) s.heap H locs) {h ci : Nat} {fs : List Value} (hh : h < N) (hC : C h = .inr (ci, fs)) {Cn : String} {T : u_T} {Nf index : Nat} (hc : vwCl[ci]? = some (Cn, T, Nf)) (hin : ∀ w ∈ u_ws Cn T Nf, w ∈ Wall) (ty0 : Nat → FieldType) (hty : ∀ k, k < Nf → parseFieldDescriptor (T k).2.2.1 = some (ty0 k)) (hnm : ∀ a, a < Nf → ∀ b, b < Nf → a ≠ b → (T a).2.1 ≠ (T b).2.1) (k : Nat) (hk : k < Nf) (hlink : Cond.fieldLink own index (T k).1 (T k).2.1 (T k).2.2.1 ∈ Wall) (hfin : (T k).2.2.2 = false) {v : Value} (hn : narrow (ty0 k) v = v) (hfit : fits (ty0 k) v = true) (hl : k < fs.length) (hu : ∀ j, va_up C h (.inr (ci, fs.set k v)) j = C1 j) (hdg : decode cc pc = .ok (.putfield index, 3))
    (kk : ∀ (H1 : Heap) (locs1 : List Loc), wP D ad N C1 H1 → va_S (wA ad N) s.heap H1 locs1 → W p l e R s m args below meth c H1 locs1 cells slots Q (F0 m (pc + 3) ls rest)) : W p l e R s m args below meth c H locs cells slots Q (F0 m pc ls (v :: .ref (ad h) :: rest)) :=
  va_put F.1 F.2.1 (Ts := Wall) F.2.2.2.2.1 hin ty0 hty hnm F.2.2.2.1 F.2.2.2.2.2.1 hP (wD hI) hS h (wld_at hh hC) hc k hk (F.2.2.2.2.1 _ hlink) (fun _ h9 => h9) hfin (hty k hk) hn hfit hl hdg (fun H1 locs1 hP1 _ hS1 => kk H1 locs1 (by rw [wld_set hu] at hP1; exact hP1) hS1)
theorem w_getN (F : wFix p s m c args cc own nL D Y ad N) (hP : wP D ad N C H) {h ci : Nat} {fs : List Value} (hh : h < N) (hC : C h = .inr (ci, fs)) {Cn host : String} {T : u_T} {Nf index : Nat} (hc : vwCl[ci]? = some (Cn, T, Nf)) (hin : ∀ w ∈ u_ws Cn T Nf, w ∈ Wall) (k : Nat) (hk : k < Nf) (hlink : Cond.fieldLinkNest own index (T k).1 (T k).2.1 (T k).2.2.1 host ∈ Wnest) {v : Value} (hv : fs[k]? = some v) (hdg : decode cc pc = .ok (.getfield index, 3))
    (kk : W p l e R s m args below meth c H locs cells slots Q (F0 m (pc + 3) ls (v :: rest))) : W p l e R s m args below meth c H locs cells slots Q (F0 m pc ls (.ref (ad h) :: rest)) :=
  va_getN F.1 F.2.1 (Ts := Wall) F.2.2.2.2.1 hin F.2.2.2.1 F.2.2.2.2.2.1 hP h (wld_at hh hC) hc k hk (va_Nw.use rfl (F.2.2.2.2.2.2.1.1 _ hlink)) (fun _ h9 => h9) hv hdg kk
theorem w_putN (F : wFix p s m c args cc own nL D Y ad N) (hI : wI ad N) (hP : wP D ad N C H) (hS : va_S (wA ad N) s.heap H locs) {h ci : Nat} {fs : List Value} (hh : h < N) (hC : C h = .inr (ci, fs)) {Cn host : String} {T : u_T} {Nf index : Nat} (hc : vwCl[ci]? = some (Cn, T, Nf)) (hin : ∀ w ∈ u_ws Cn T Nf, w ∈ Wall) (ty0 : Nat → FieldType) (hty : ∀ k, k < Nf → parseFieldDescriptor (T k).2.2.1 = some (ty0 k)) (hnm : ∀ a, a < Nf → ∀ b, b < Nf → a ≠ b → (T a).2.1 ≠ (T b).2.1) (k : Nat) (hk : k < Nf) (hlink : Cond.fieldLinkNest own index (T k).1 (T k).2.1 (T k).2.2.1 host ∈ Wnest) (hfin : (T k).2.2.2 = false) {v : Value} (hn : narrow (ty0 k) v = v) (hfit : fits (ty0 k) v = true) (hl : k < fs.length) (hu : ∀ j, va_up C h (.inr (ci, fs.set k v)) j = C1 j) (hdg : decode cc pc = .ok (.putfield index, 3))
    (kk : ∀ (H1 : Heap) (locs1 : List Loc), wP D ad N C1 H1 → va_S (wA ad N) s.heap H1 locs1 → W p l e R s m args below meth c H1 locs1 cells slots Q (F0 m (pc + 3) ls rest)) : W p l e R s m args below meth c H locs cells slots Q (F0 m pc ls (v :: .ref (ad h) :: rest)) :=
  va_putN F.1 F.2.1 (Ts := Wall) F.2.2.2.2.1 hin ty0 hty hnm F.2.2.2.1 F.2.2.2.2.2.1 hP (wD hI) hS h (wld_at hh hC) hc k hk (va_Nw.use rfl (F.2.2.2.2.2.2.1.1 _ hlink)) (fun _ h9 => h9) hfin (hty k hk) hn hfit hl hdg (fun H1 locs1 hP1 _ hS1 => kk H1 locs1 (by rw [wld_set hu] at hP1; exact hP1) hS1)
/-- a static array's number -/
theorem w_stab (F : wFix p s m c args cc own nL D Y ad N) (hS : va_S (wA ad N) s.heap H locs) {t : Nat} {f : Nat → Int32} (hT : va_T .int t 4 (fun j => .int (f j)) (wA ad N) s s.heap) {i : Int32} {k : Nat} (hi : i = nI k) (hk : k < 4) {v : Int32} (hv : f k = v) (hdg : decode cc pc = .ok (.iaload, 1))
    (kk : W p l e R s m args below meth c H locs cells slots Q (F0 m (pc + 1) ls (.int v :: rest))) : W p l e R s m args below meth c H locs cells slots Q (F0 m pc ls (.int i :: .ref t :: rest)) := by
  subst hi
  exact va_ti F.1 F.2.1 hT hS (vp_in_nI hk (by decide)) (by rw [nI_clamp (by omega), hv]) hdg kk
theorem w_iald (F : wFix p s m c args cc own nL D Y ad N) (hP : wP D ad N C H) {h n : Nat} {f : Nat → Int32} (hh : h < N) (hC : C h = .inl (Y 0, n, .inl f)) {i : Int32} {k : Nat} (hi : i = nI k) (hk : k < n) (hn : n < 2147483648) {v : Int32} (hv : f k = v) (hdg : decode cc pc = .ok (.iaload, 1))
    (kk : W p l e R s m args below meth c H locs cells slots Q (F0 m (pc + 1) ls (.int v :: rest))) : W p l e R s m args below meth c H locs cells slots Q (F0 m pc ls (.int i :: .ref (ad h) :: rest)) := by
  subst hi
  refine va_iald F.1 F.2.1 F.2.2.2.2.2.1 hP h 0 (wld_at hh hC) rfl (vp_in_nI hk hn) hdg ?_
  rw [nI_clamp (Nat.lt_trans hk hn), hv]
  exact kk
theorem w_zald (F : wFix p s m c args cc own nL D Y ad N) (hP : wP D ad N C H) {h n : Nat} {f : Nat → Int32} (hh : h < N) (hC : C h = .inl (Y 1, n, .inl f)) {i : Int32} {k : Nat} (hi : i = nI k) (hk : k < n) (hn : n < 2147483648) {v : Int32} (hv : f k = v) (hdg : decode cc pc = .ok (.baload, 1))
    (kk : W p l e R s m args below meth c H locs cells slots Q (F0 m (pc + 1) ls (.int v :: rest))) : W p l e R s m args below meth c H locs cells slots Q (F0 m pc ls (.int i :: .ref (ad h) :: rest)) := by
  subst hi
  refine va_zald F.1 F.2.1 F.2.2.2.2.2.1 hP h 1 (wld_at hh hC) rfl (vp_in_nI hk hn) hdg ?_
  rw [nI_clamp (Nat.lt_trans hk hn), hv]
  exact kk
theorem w_iast (F : wFix p s m c args cc own nL D Y ad N) (hI : wI ad N) (hP : wP D ad N C H) (hS : va_S (wA ad N) s.heap H locs) {h n : Nat} {f : Nat → Int32} (hh : h < N) (hC : C h = .inl (Y 0, n, .inl f)) {i x : Int32} {k : Nat} (hi : i = nI k) (hk : k < n) (hn : n < 2147483648) (hu : ∀ j, va_up C h (.inl (Y 0, n, .inl (upd f k x))) j = C1 j) (hdg : decode cc pc = .ok (.iastore, 1))
    (kk : ∀ (H1 : Heap) (locs1 : List Loc), wP D ad N C1 H1 → va_S (wA ad N) s.heap H1 locs1 → W p l e R s m args below meth c H1 locs1 cells slots Q (F0 m (pc + 1) ls rest)) : W p l e R s m args below meth c H locs cells slots Q (F0 m pc ls (.int x :: .int i :: .ref (ad h) :: rest)) := by
  subst hi
  refine va_iast F.1 F.2.1 F.2.2.2.2.2.1 hP (wD hI) hS h 0 (wld_at hh hC) rfl (vp_in_nI hk hn) hdg (fun H1 locs1 hP1 _ hS1 => ?_)
  rw [nI_clamp (Nat.lt_trans hk hn), wld_set hu] at hP1
  exact kk H1 locs1 hP1 hS1
theorem w_zast (F : wFix p s m c args cc own nL D Y ad N) (hI : wI ad N) (hP : wP D ad N C H) (hS : va_S (wA ad N) s.heap H locs) {h n : Nat} {f : Nat → Int32} (hh : h < N) (hC : C h = .inl (Y 1, n, .inl f)) {i x : Int32} {k : Nat} (hi : i = nI k) (hk : k < n) (hn : n < 2147483648) (hx : vp_nar .boolean x = x) (hu : ∀ j, va_up C h (.inl (Y 1, n, .inl (upd f k x))) j = C1 j) (hdg : decode cc pc = .ok (.bastore, 1))
    (kk : ∀ (H1 : Heap) (locs1 : List Loc), wP D ad N C1 H1 → va_S (wA ad N) s.heap H1 locs1 → W p l e R s m args below meth c H1 locs1 cells slots Q (F0 m (pc + 1) ls rest)) : W p l e R s m args below meth c H locs cells slots Q (F0 m pc ls (.int x :: .int i :: .ref (ad h) :: rest)) := by
  subst hi
  refine va_zast F.1 F.2.1 F.2.2.2.2.2.1 hP (wD hI) hS h 1 (wld_at hh hC) rfl (vp_in_nI hk hn) hdg (fun H1 locs1 hP1 _ hS1 => ?_)
  rw [nI_clamp (Nat.lt_trans hk hn), hx, wld_set hu] at hP1
  exact kk H1 locs1 hP1 hS1
/-- a row of a grid -/
theorem w_gald (F : wFix p s m c args cc own nL D Y ad N) (hP : wP D ad N C H) {h n : Nat} {f : Nat → Option Nat} (hh : h < N) (hC : C h = .inl (Y 3, n, .inr (.inr (.inr (.inr f))))) {i : Int32} {k : Nat} (hi : i = nI k) (hk : k < n) (hn : n < 2147483648) {v : Nat} (hv : f k = some v) (hdg : decode cc pc = .ok (.aaload, 1))
    (kk : W p l e R s m args below meth c H locs cells slots Q (F0 m (pc + 1) ls (.ref v :: rest))) : W p l e R s m args below meth c H locs cells slots Q (F0 m pc ls (.int i :: .ref (ad h) :: rest)) := by
  subst hi
  have hlt : (nI k).toNatClampNeg < n := by rw [nI_clamp (Nat.lt_trans hk hn)]; exact hk
  refine W.aald (v := va_rf (f (nI k).toNatClampNeg)) (ty := .array .int) F.1 F.2.1 (hP h _ (wld_at hh hC)) ((F.2.2.2.2.2.1.2 3 _ rfl).1 n (fun j => va_rf (f j))) rfl (fun q => by cases q) (by show ¬ (nI k < 0 ∨ (arrV _ _ _).slots.size ≤ _); rw [arrV_size]; exact vp_in_nI hk hn) (by show (arrV _ _ _).slots[_]? = _; rw [arrV_read _ _ hlt]) rfl rfl hdg ?_
  rw [nI_clamp (Nat.lt_trans hk hn), hv]
  exact kk
/-- an object of a row of objects -/
theorem w_qald (F : wFix p s m c args cc own nL D Y ad N) (hP : wP D ad N C H) {h n : Nat} {f : Nat → Option Nat} (hh : h < N) (hC : C h = .inl (Y 2, n, .inr (.inr (.inr (.inr f))))) {i : Int32} {k : Nat} (hi : i = nI k) (hk : k < n) (hn : n < 2147483648) {v : Nat} (hv : f k = some v) (hdg : decode cc pc = .ok (.aaload, 1))
    (kk : W p l e R s m args below meth c H locs cells slots Q (F0 m (pc + 1) ls (.ref v :: rest))) : W p l e R s m args below meth c H locs cells slots Q (F0 m pc ls (.int i :: .ref (ad h) :: rest)) := by
  subst hi
  refine va_aldq F.1 F.2.1 F.2.2.2.2.2.1 hP h 2 (wld_at hh hC) rfl (vp_in_nI hk hn) hdg ?_
  rw [nI_clamp (Nat.lt_trans hk hn), hv]
  exact kk
theorem w_max (F : wFix p s m c args cc own nL D Y ad N) (hsz : ls.size = nL) {index : Nat} (hlink : Cond.methodLink own index Lib.Math.max.name ∈ Wall) (hframes : 1 ≤ R.frames) (hlocals : (rest.map fun v => v.category).sum + 13 ≤ R.locals) (hcs : cells ≤ R.cells ∧ slots ≤ R.slots) {x y : Int32} (hdg : decode cc pc = .ok (.invokestatic index, 3))
    (kk : W p l e R s m args below meth c H locs cells slots Q (F0 m (pc + 3) ls (.int (if x < y then y else x) :: rest))) : W p l e R s m args below meth c H locs cells slots Q (F0 m pc ls (.int y :: .int x :: rest)) :=
  va_mmax F.1 F.2.1 (F.2.2.1.trans hsz.symm) F.2.2.2.1 (F.2.2.2.2.1 _ hlink) (F.2.2.2.2.1 _ MW_max_static) (F.2.2.2.2.1 _ MW_math_init) (F.2.2.2.2.1 _ MW_max_code) hframes hlocals hcs.1 hcs.2 hdg kk
theorem w_min (F : wFix p s m c args cc own nL D Y ad N) (hsz : ls.size = nL) {index : Nat} (hlink : Cond.methodLink own index Lib.Math.min.name ∈ Wall) (hframes : 1 ≤ R.frames) (hlocals : (rest.map fun v => v.category).sum + 13 ≤ R.locals) (hcs : cells ≤ R.cells ∧ slots ≤ R.slots) {x y : Int32} (hdg : decode cc pc = .ok (.invokestatic index, 3))
    (kk : W p l e R s m args below meth c H locs cells slots Q (F0 m (pc + 3) ls (.int (if y < x then y else x) :: rest))) : W p l e R s m args below meth c H locs cells slots Q (F0 m pc ls (.int y :: .int x :: rest)) :=
  va_mmin F.1 F.2.1 (F.2.2.1.trans hsz.symm) F.2.2.2.1 (F.2.2.2.2.1 _ hlink) (F.2.2.2.2.1 _ MW_min_static) (F.2.2.2.2.1 _ MW_math_init) (F.2.2.2.2.1 _ MW_min_code) hframes hlocals hcs.1 hcs.2 hdg kk
theorem w_abs (F : wFix p s m c args cc own nL D Y ad N) (hsz : ls.size = nL) {index : Nat} (hlink : Cond.methodLink own index Lib.Math.abs.name ∈ Wall) (hframes : 1 ≤ R.frames) (hlocals : (rest.map fun v => v.category).sum + 13 ≤ R.locals) (hcs : cells ≤ R.cells ∧ slots ≤ R.slots) {x : Int32} (hdg : decode cc pc = .ok (.invokestatic index, 3))
    (kk : W p l e R s m args below meth c H locs cells slots Q (F0 m (pc + 3) ls (.int (if 0 ≤ x then x else 0 - x) :: rest))) : W p l e R s m args below meth c H locs cells slots Q (F0 m pc ls (.int x :: rest)) :=
  va_mabs F.1 F.2.1 (F.2.2.1.trans hsz.symm) F.2.2.2.1 (F.2.2.2.2.1 _ hlink) (F.2.2.2.2.1 _ MW_abs_static) (F.2.2.2.2.1 _ MW_math_init) (F.2.2.2.2.1 _ MW_abs_code) hframes hlocals hcs.1 hcs.2 hdg kk
/-- System.arraycopy of ints -/
theorem w_acpy (F : wFix p s m c args cc own nL D Y ad N) (hI : wI ad N) (hsz : ls.size = nL) (hP : wP D ad N C H) (hS : va_S (wA ad N) s.heap H locs) {index : Nat} (hlink : Cond.methodLink own index arraycopyName ∈ Wall) {h0 h1 n0 n1 : Nat} {f g : Nat → Int32} (hh0 : h0 < N) (hh1 : h1 < N) (hC0 : C h0 = .inl (Y 0, n0, .inl f)) (hC1 : C h1 = .inl (Y 0, n1, .inl g)) {sp dp n : Int32} {a b k : Nat} (ha : sp = nI a) (hb : dp = nI b) (hk : n = nI k) (h4 : a + k ≤ n0) (h5 : b + k ≤ n1) (hn0 : n0 < 2147483648) (hn1 : n1 < 2147483648)
    (hframes : 1 ≤ R.frames) (hlocals : (rest.map fun v => v.category).sum + (nativeFrameWords "java/lang/System" "arraycopy" 5 + 11) ≤ R.locals) (hu : ∀ j, va_up C h1 (.inl (Y 0, n1, .inl (va_cpy f g a b k))) j = C1 j) (hdg : decode cc pc = .ok (.invokestatic index, 3))
    (kk : ∀ (H1 : Heap) (locs1 : List Loc), wP D ad N C1 H1 → va_S (wA ad N) s.heap H1 locs1 → W p l e R s m args below meth c H1 locs1 cells slots Q (F0 m (pc + 3) ls rest)) : W p l e R s m args below meth c H locs cells slots Q (F0 m pc ls (.int n :: .int dp :: .ref (ad h1) :: .int sp :: .ref (ad h0) :: rest)) := by
  subst ha; subst hb; subst hk
  have ca : (nI a).toNatClampNeg = a := nI_clamp (by omega)
  have cb : (nI b).toNatClampNeg = b := nI_clamp (by omega)
  have ck : (nI k).toNatClampNeg = k := nI_clamp (by omega)
  refine va_copyi (ty := .int) F.1 F.2.1 (F.2.2.1.trans hsz.symm) F.2.2.2.1 (F.2.2.2.2.1 _ hlink) (F.2.2.2.2.1 _ MW_copy_native) (F.2.2.2.2.1 _ MW_copy_static) (F.2.2.2.2.1 _ MW_system_init) F.2.2.2.2.2.1 hP (wD hI) hS h0 h1 0 0 (wld_at hh0 hC0) (wld_at hh1 hC1) rfl rfl rfl (nI_pos (by omega)) (nI_pos (by omega)) (nI_pos (by omega)) (by rw [ca, ck]; exact h4) (by rw [cb, ck]; exact h5) (fun _ _ => rfl) hframes hlocals hdg (fun H1 locs1 hP1 _ hS1 => ?_)
  rw [ca, cb, ck, wld_set hu] at hP1
  exact kk H1 locs1 hP1 hS1
/-- a call of an int method, or of a boolean one -/
theorem w_calli (F : wFix p s m c args cc own nL D Y ad N) (hP : wP D ad N C H) (hS : va_S (wA ad N) s.heap H locs) {y : MethodName} {bytes : ByteArray} {maxL : Nat} {ret : Option FieldType} {rm : Room} {as : List Value} {h : Nat} {post : Int32 → (Nat → va_E) → Prop} (hM : Met l y (wm y bytes maxL ret) rm (wPc D Y ad N (.ref (ad h) :: as) C) (wQi D ad N post) 0 0 (wA ad N)) {index n : Nat} {Cn : String} (cw : CallW R s args own Cn index y bytes maxL ret (wm y bytes maxL ret) rm 0 0 n) (hh : h < N) {ci : Nat} {fs : List Value} {T : u_T} {Nf : Nat} (hC : C h = .inr (ci, fs)) (hc : vwCl[ci]? = some (Cn, T, Nf)) (hn : as.length = n) (hsz : ls.size = nL) {st : List Value} (hst : st = as.reverse ++ .ref (ad h) :: rest) (hW : (rest.map fun v => v.category).sum ≤ 8) (hdg : decode cc pc = .ok (.invokevirtual index, 3)) (hcs : cells ≤ R.cells ∧ slots ≤ R.slots)
    (kk : ∀ (r : Int32) (C' : Nat → va_E) (H1 : Heap) (locs1 : List Loc), post r C' → wP D ad N C' H1 → va_S (wA ad N) s.heap H1 locs1 → W p l e R s m args below meth c H1 locs1 cells slots Q (F0 m (pc + 3) ls (.int r :: rest))) : W p l e R s m args below meth c H locs cells slots Q (F0 m pc ls st) :=
  va_calli (va_runV (As := as) (rest := rest) ⟨F.1, F.2.1, F.2.2.1, F.2.2.2.1, F.2.2.2.2.1⟩ hM cw ⟨wPc_blind, va_recv F.2.2.2.2.2.1 hP (q0 := h) hc (wld_at hh hC), fun U hU hW => ⟨rfl, by rw [hU]; exact hP, va_K.moved hW.alike F.2.2.2.2.2.1, wEnv_at F hS hU hW⟩⟩ rfl hn hsz hst (lv_room hW) hdg hcs) hS (fun q _ h => h) (fun q h => h) (fun r u t H1 locs1 ht hvm hw hB _ _ hS1 => kk r u H1 locs1 hw (by rw [← ht]; exact hB) hS1)
theorem w_callv (F : wFix p s m c args cc own nL D Y ad N) (hP : wP D ad N C H) (hS : va_S (wA ad N) s.heap H locs) {y : MethodName} {bytes : ByteArray} {maxL : Nat} {ret : Option FieldType} {rm : Room} {as : List Value} {h : Nat} {post : (Nat → va_E) → Prop} (hM : Met l y (wm y bytes maxL ret) rm (wPc D Y ad N (.ref (ad h) :: as) C) (wQv D ad N post) 0 0 (wA ad N)) {index n : Nat} {Cn : String} (cw : CallW R s args own Cn index y bytes maxL ret (wm y bytes maxL ret) rm 0 0 n) (hh : h < N) {ci : Nat} {fs : List Value} {T : u_T} {Nf : Nat} (hC : C h = .inr (ci, fs)) (hc : vwCl[ci]? = some (Cn, T, Nf)) (hn : as.length = n) (hsz : ls.size = nL) {st : List Value} (hst : st = as.reverse ++ .ref (ad h) :: rest) (hW : (rest.map fun v => v.category).sum ≤ 8) (hdg : decode cc pc = .ok (.invokevirtual index, 3)) (hcs : cells ≤ R.cells ∧ slots ≤ R.slots)
    (kk : ∀ (C' : Nat → va_E) (H1 : Heap) (locs1 : List Loc), post C' → wP D ad N C' H1 → va_S (wA ad N) s.heap H1 locs1 → W p l e R s m args below meth c H1 locs1 cells slots Q (F0 m (pc + 3) ls rest)) : W p l e R s m args below meth c H locs cells slots Q (F0 m pc ls st) :=
  va_callv (va_runV (As := as) (rest := rest) ⟨F.1, F.2.1, F.2.2.1, F.2.2.2.1, F.2.2.2.2.1⟩ hM cw ⟨wPc_blind, va_recv F.2.2.2.2.2.1 hP (q0 := h) hc (wld_at hh hC), fun U hU hW => ⟨rfl, by rw [hU]; exact hP, va_K.moved hW.alike F.2.2.2.2.2.1, wEnv_at F hS hU hW⟩⟩ rfl hn hsz hst (lv_room hW) hdg hcs) hS (fun q _ h => h) (fun q h => h) (fun u t H1 locs1 ht hvm hw hB _ _ hS1 => kk u H1 locs1 hw (by rw [← ht]; exact hB) hS1)
/-- a call of a static method -/
theorem w_calls (F : wFix p s m c args cc own nL D Y ad N) (hP : wP D ad N C H) (hS : va_S (wA ad N) s.heap H locs) {y : MethodName} {bytes : ByteArray} {maxL : Nat} {ret : Option FieldType} {rm : Room} {as : List Value} {post : Int32 → (Nat → va_E) → Prop} (hM : Met l y (wm y bytes maxL ret) rm (wPc D Y ad N as C) (wQi D ad N post) 0 0 (wA ad N)) {index n : Nat} (cw : CallB R s args own index y bytes maxL ret (wm y bytes maxL ret) rm 0 0 n ∧ (Cond.static y).before args s = true) (hn : as.length = n) (hsz : ls.size = nL) {st : List Value} (hst : st = as.reverse ++ rest) (hW : (rest.map fun v => v.category).sum ≤ 8) (hdg : decode cc pc = .ok (.invokestatic index, 3)) (hcs : cells ≤ R.cells ∧ slots ≤ R.slots)
    (kk : ∀ (r : Int32) (C' : Nat → va_E) (H1 : Heap) (locs1 : List Loc), post r C' → wP D ad N C' H1 → va_S (wA ad N) s.heap H1 locs1 → W p l e R s m args below meth c H1 locs1 cells slots Q (F0 m (pc + 3) ls (.int r :: rest))) : W p l e R s m args below meth c H locs cells slots Q (F0 m pc ls st) :=
  va_calli (va_runS (As := as) (rest := rest) ⟨F.1, F.2.1, F.2.2.1, F.2.2.2.1, F.2.2.2.2.1⟩ hM cw ⟨wPc_blind, fun U hU hW => ⟨rfl, by rw [hU]; exact hP, va_K.moved hW.alike F.2.2.2.2.2.1, wEnv_at F hS hU hW⟩⟩ rfl hn hsz hst (lv_room hW) hdg hcs) hS (fun q _ h => h) (fun q h => h) (fun r u t H1 locs1 ht hvm hw hB _ _ hS1 => kk r u H1 locs1 hw (by rw [← ht]; exact hB) hS1)
/-- ends -/
theorem w_iret (F : wFix p s m c args cc own nL D Y ad N) (hr : meth.sig.returnType = some .int) (hlocks : meth.locks = false) (hP : wP D ad N C H) (hS : va_S (wA ad N) s.heap H locs) {post : Int32 → (Nat → va_E) → Prop} {v : Int32} (hdg : decode cc pc = .ok (.ireturn, 1)) (hq : post v C) : W p l e R s m args below meth c H locs cells slots (MQ below (wQi D ad N post) args s cells slots (wA ad N)) (F0 m pc ls [.int v]) :=
  W.iret F.1 F.2.1 hr (fun t ht _ => ⟨⟨v, C, rfl, hq, by show wP D ad N C t.heap; rw [ht]; exact hP⟩, hS.F ht⟩) hS.2.2 hdg hlocks
theorem w_zret (F : wFix p s m c args cc own nL D Y ad N) (hr : meth.sig.returnType = some .boolean) (hlocks : meth.locks = false) (hP : wP D ad N C H) (hS : va_S (wA ad N) s.heap H locs) {post : Int32 → (Nat → va_E) → Prop} {v : Int32} (hn : v = 0 ∨ v = 1) (hdg : decode cc pc = .ok (.ireturn, 1)) (hq : post v C) : W p l e R s m args below meth c H locs cells slots (MQ below (wQi D ad N post) args s cells slots (wA ad N)) (F0 m pc ls [.int v]) :=
  W.zret (ty := .boolean) F.1 F.2.1 hr (by rcases hn with rfl | rfl <;> rfl) (fun t ht _ => ⟨⟨v, C, rfl, hq, by show wP D ad N C t.heap; rw [ht]; exact hP⟩, hS.F ht⟩) hS.2.2 hdg hlocks
theorem w_vret (F : wFix p s m c args cc own nL D Y ad N) (hr : meth.sig.returnType = none) (hlocks : meth.locks = false) (hP : wP D ad N C H) (hS : va_S (wA ad N) s.heap H locs) {post : (Nat → va_E) → Prop} (hdg : decode cc pc = .ok (.return_, 1)) (hq : post C) : W p l e R s m args below meth c H locs cells slots (MQ below (wQv D ad N post) args s cells slots (wA ad N)) (F0 m pc ls []) :=
  W.vret F.1 F.2.1 hr (fun t ht _ => ⟨⟨C, rfl, hq, by show wP D ad N C t.heap; rw [ht]; exact hP⟩, hS.F ht⟩) hS.2.2 hdg hlocks
/-- a loop: Inv i ls C at its head, where i falls -/
theorem w_loop (Inv : Nat → Array Slot → (Nat → va_E) → Prop)
    (step : ∀ i, (∀ j, j < i → ∀ H locs ls C, Inv j ls C → wP D ad N C H → va_S (wA ad N) s.heap H locs → W p l e R s m args below meth c H locs cells slots Q (F0 m pc ls [])) → ∀ H locs ls C, Inv i ls C → wP D ad N C H → va_S (wA ad N) s.heap H locs → W p l e R s m args below meth c H locs cells slots Q (F0 m pc ls []))
    (i : Nat) {H : Heap} {locs : List Loc} {ls : Array Slot} {C : Nat → va_E} (h1 : Inv i ls C) (h2 : wP D ad N C H) (h3 : va_S (wA ad N) s.heap H locs) : W p l e R s m args below meth c H locs cells slots Q (F0 m pc ls []) := by
  induction i using Nat.strongRecOn generalizing H locs ls C with
  | ind i ih => exact step i (fun j hj H locs ls C a b d => ih j hj a b d) H locs ls C h1 h2 h3
/-- a value that two ways agree on -/
theorem w_cut {J : Nat} {ls1 : Array Slot} {rest1 : List Value} (v : Int32) {g : JFrame}
    (h1 : (∀ x : Int32, x = v → W p l e R s m args below meth c H locs cells slots Q (F0 m J ls1 (.int x :: rest1))) → W p l e R s m args below meth c H locs cells slots Q g)
    (h2 : ∀ x : Int32, x = v → W p l e R s m args below meth c H locs cells slots Q (F0 m J ls1 (.int x :: rest1))) : W p l e R s m args below meth c H locs cells slots Q g := h1 h2
end CORE
theorem up_self {C : Nat → va_E} {h : Nat} {e e' : va_E} : ∀ j, va_up (va_up C h e) h e' j = va_up C h e' j := fun j => by by_cases q : j = h <;> simp [va_up, q]
theorem up_rfl {C : Nat → va_E} : ∀ j, C j = C j := fun _ => rfl

