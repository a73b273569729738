/-! A world that grows -/
theorem wld_push {ad : Nat → Nat} {N : Nat} {C : Nat → va_E} {q : Nat} {e : va_E} : wld ad N C ++ [(q, e)] = wld (va_up ad N q) (N + 1) (va_up C N e) := by
  apply List.ext_getElem?
  intro j
  by_cases h : j < N
  · rw [List.getElem?_append_left (by rw [wld_len]; exact h), wld_at h rfl, wld_at (show j < N + 1 by omega) rfl, va_up_ne _ _ (by omega), va_up_ne _ _ (by omega)]
  · by_cases h2 : j = N
    · subst h2
      rw [List.getElem?_append_right (by rw [wld_len]; exact Nat.le_refl _), wld_len, Nat.sub_self, wld_at (show j < j + 1 by omega) rfl, va_up_self, va_up_self]
      rfl
    · rw [List.getElem?_eq_none (by rw [List.length_append, wld_len]; show N + 1 ≤ j; omega), List.getElem?_eq_none (by rw [wld_len]; omega)]
theorem wI_of {A : Nat → Prop} {ad : Nat → Nat} {N : Nat} {C : Nat → va_E} (h : va_D A (wld ad N C)) : wI ad N := fun i j hi hj e => h.1 i j _ _ (wld_at hi rfl) (wld_at hj rfl) e
theorem wA_of {A : Nat → Prop} {ad : Nat → Nat} {N : Nat} {C : Nat → va_E} (h : va_D A (wld ad N C)) {i : Nat} (hi : i < N) : A (ad i) := h.2 i _ (wld_at hi rfl)
/-- which cells a constructor may change: its world's, and those that it makes -/
def gA (ad : Nat → Nat) (N sz : Nat) : Nat → Prop := fun q => wA ad N q ∨ sz ≤ q
theorem gD {ad : Nat → Nat} {N sz : Nat} {C : Nat → va_E} (hI : wI ad N) : va_D (gA ad N sz) (wld ad N C) :=
  ⟨(wD hI).1, fun k q hk => Or.inl ((wD hI).2 k q hk)⟩
abbrev gPc (D : va_G) (Y : Nat → ClassId) (ad : Nat → Nat) (N sz : Nat) (as : List Value) (C : Nat → va_E) : Array Value → State → Prop :=
  va_Pc as (fun U => U.heap.size = sz ∧ wP D ad N C U.heap ∧ va_K D vwCl (tyH Y) U ∧ wEnv (gA ad N sz) U)
/-- behind a constructor: the places have grown to N', at the addresses ad' -/
abbrev gQ (D : va_G) (ad : Nat → Nat) (N sz : Nat) (post : (Nat → Nat) → Nat → (Nat → va_E) → Prop) : Array Value → State → Outcome → State → Prop :=
  va_Qv (fun u : (Nat → Nat) × Nat × (Nat → va_E) => (N ≤ u.2.1 ∧ (∀ i, i < N → u.1 i = ad i) ∧ wI u.1 u.2.1 ∧ ∀ i, N ≤ i → i < u.2.1 → sz ≤ u.1 i) ∧ post u.1 u.2.1 u.2.2) (fun u t => wP D u.1 u.2.1 u.2.2 t.heap) (gA ad N sz)
/-- what is fixed in a constructor's walk -/
def gFix (p : Program) (s : State) (m : MethodId) (c : Code) (args : Array Value) (cc : ByteArray) (own : String) (nL : Nat) (D : va_G) (Y : Nat → ClassId) (ad : Nat → Nat) (N sz : Nat) : Prop :=
  p.tables.exec = Jvm.exec ∧ c.code = cc ∧ c.maxLocals = nL ∧ s.vm.findClass own = some m.cls ∧ (∀ w ∈ Wall, w.before args s = true) ∧ va_K D vwCl (tyH Y) s ∧ wEnv (gA ad N sz) s ∧ s.heap.size = sz
theorem gFix.all {p : Program} {s : State} {m : MethodId} {c : Code} {args : Array Value} {cc : ByteArray} {own : String} {nL : Nat} {D : va_G} {Y : Nat → ClassId} {ad : Nat → Nat} {N sz : Nat} (F : gFix p s m c args cc own nL D Y ad N sz) : ∀ q, s.heap.size ≤ q → gA ad N sz q := fun q h => Or.inr (by rw [← F.2.2.2.2.2.2.2]; exact h)
section GROW
variable {p : Program} {l : Launch} {e : Env} {R : Room} {s : State} {m : MethodId} {args : Array Value} {below : List Frame} {meth : Method} {c : Code} {H : Heap} {locs : List Loc} {cells slots : Nat} {Q : State → Prop}
variable {cc : ByteArray} {pc : Nat} {ls : Array Slot} {rest : List Value} {D : va_G} {Y : Nat → ClassId} {ad ad0 : Nat → Nat} {N N0 sz : Nat} {C C1 : Nat → va_E} {own : String} {nL : Nat}
/-- a new int[] or boolean[] -/
theorem g_newa (F : gFix p s m c args cc own nL D Y ad0 N0 sz) (hP : wP D ad N C H) (hD : va_D (gA ad0 N0 sz) (wld ad N C)) (hS : va_S (gA ad0 N0 sz) s.heap H locs) {atype : ArrayType} {t0 : Nat} (hty : (tyH Y)[t0]? = some (Y t0, newarray.typeOf atype)) (hob : ∀ (U : State) (cA : ClassId), va_RA U cA (newarray.typeOf atype) → U.vm.findClass ("[" ++ (newarray.typeOf atype).toString) = some cA) (hdv : defaultValue (newarray.typeOf atype) = .int 0) (harr : Cond.arrayClass (newarray.typeOf atype) ∈ Wall) {n : Int32} {n' : Nat} (hn : ¬ n < 0) (hN : n.toNatClampNeg = n') (hbytes : n' * componentBytes (newarray.typeOf atype) ≤ 536870912) (hcells : cells + 1 ≤ R.cells) (hslots : slots + n' ≤ R.slots) (hdg : decode cc pc = .ok (.newarray atype, 2))
    (kk : ∀ (q : Nat) (H1 : Heap), wP D (va_up ad N q) (N + 1) (va_up C N (.inl (Y t0, n', .inl (fun _ => 0)))) H1 → va_D (gA ad0 N0 sz) (wld (va_up ad N q) (N + 1) (va_up C N (.inl (Y t0, n', .inl (fun _ => 0))))) → va_S (gA ad0 N0 sz) s.heap H1 locs → W p l e R s m args below meth c H1 locs (cells + 1) (slots + n') Q (F0 m (pc + 2) ls (.ref q :: rest))) : W p l e R s m args below meth c H locs cells slots Q (F0 m pc ls (.int n :: rest)) :=
  va_newa F.1 F.2.1 (F.2.2.2.2.1 _ harr) rfl F.2.2.2.2.2.1 hP hD hS F.all (a0 := (n', .inl (fun _ => 0))) (fun cA => by rw [hdv]; rfl) hn hN hbytes hcells hslots hdg (fun q cA H1 hK1 hP1 hD1 hS1 => by
    have e1 := hob s cA (hK1.2 4 (cA, newarray.typeOf atype) rfl).2
    have e2 := hob s (Y t0) (F.2.2.2.2.2.1.2 t0 _ hty).2
    have e3 : Y t0 = cA := Option.some.inj (e2.symm.trans e1)
    subst e3
    rw [wld_push] at hP1 hD1
    exact kk q H1 hP1 hD1 hS1)
/-- a new object -/
theorem g_new (F : gFix p s m c args cc own nL D Y ad0 N0 sz) (hP : wP D ad N C H) (hD : va_D (gA ad0 N0 sz) (wld ad N C)) (hS : va_S (gA ad0 N0 sz) s.heap H locs) {Cn : String} {T : u_T} {Nf ci index : Nat} (hin : ∀ w ∈ u_ws Cn T Nf, w ∈ Wall) (ty0 : Nat → FieldType) (hty : ∀ k, k < Nf → parseFieldDescriptor (T k).2.2.1 = some (ty0 k)) (hcl : Cond.classLink own index Cn ∈ Wall) (hinst : Cond.instantiable Cn Nf ∈ Wall) (hini : Cond.initialized Cn ∈ Wall) (hc : vwCl[ci]? = some (Cn, T, Nf)) {fs : List Value} (hfs : ∀ j, j < Nf → defaultValue (ty0 j) = vp_V fs j) (hcells : cells + 1 ≤ R.cells) (hslots : slots + Nf ≤ R.slots) (hdg : decode cc pc = .ok (.new index, 3))
    (kk : ∀ (q : Nat) (H1 : Heap), wP D (va_up ad N q) (N + 1) (va_up C N (.inr (ci, fs))) H1 → va_D (gA ad0 N0 sz) (wld (va_up ad N q) (N + 1) (va_up C N (.inr (ci, fs)))) → va_S (gA ad0 N0 sz) s.heap H1 locs → W p l e R s m args below meth c H1 locs (cells + 1) (slots + Nf) Q (F0 m (pc + 3) ls (.ref q :: rest))) : W p l e R s m args below meth c H locs cells slots Q (F0 m pc ls rest) :=
  va_new F.1 F.2.1 (Ts := Wall) F.2.2.2.2.1 hin ty0 hty F.2.2.2.1 (F.2.2.2.2.1 _ hcl) (F.2.2.2.2.1 _ hinst) (F.2.2.2.2.1 _ hini) F.2.2.2.2.2.1 hP hD hS F.all hc hfs hcells hslots hdg (fun q H1 hP1 hD1 hS1 => by
    rw [wld_push] at hP1 hD1
    exact kk q H1 hP1 hD1 hS1)
theorem wld_setD {A : Nat → Prop} {i : Nat} {e2 : va_E} (hD : va_D A ((wld ad N C).set i (ad i, e2))) (h : ∀ j, va_up C i e2 j = C1 j) : va_D A (wld ad N C1) := by
  rw [wld_set h] at hD; exact hD
/-- a final field of the object in its making -/
theorem g_putF (F : gFix p s m c args cc own nL D Y ad0 N0 sz) (hP : wP D ad N C H) (hD : va_D (gA ad0 N0 sz) (wld ad N C)) (hS : va_S (gA ad0 N0 sz) s.heap H locs) {a : Nat} {h ci : Nat} {fs : List Value} (ha : a = ad h) (hh : h < N) (hC : C h = .inr (ci, fs)) {T : u_T} {Nf index : Nat} (hc : vwCl[ci]? = some (own, T, Nf)) (hin : ∀ w ∈ u_ws own T Nf, w ∈ Wall) (ty0 : Nat → FieldType) (hty : ∀ k, k < Nf → parseFieldDescriptor (T k).2.2.1 = some (ty0 k)) (hnm : ∀ a, a < Nf → ∀ b, b < Nf → a ≠ b → (T a).2.1 ≠ (T b).2.1) (k : Nat) (hk : k < Nf) (hlink : Cond.fieldLink own index (T k).1 (T k).2.1 (T k).2.2.1 ∈ Wall) (hfin : (T k).2.2.2 = true) (hin2 : meth.name = "<init>") (hdecl : (T k).1 = own) {v : Value} (hn : narrow (ty0 k) v = v) (hfit : fits (ty0 k) v = true) (hl : k < fs.length) (hu : ∀ j, va_up C h (.inr (ci, fs.set k v)) j = C1 j) (hdg : decode cc pc = .ok (.putfield index, 3))
    (kk : ∀ (H1 : Heap) (locs1 : List Loc), wP D ad N C1 H1 → va_D (gA ad0 N0 sz) (wld ad N C1) → va_S (gA ad0 N0 sz) s.heap H1 locs1 → W p l e R s m args below meth c H1 locs1 cells slots Q (F0 m (pc + 3) ls rest)) : W p l e R s m args below meth c H locs cells slots Q (F0 m pc ls (v :: .ref a :: rest)) := by
  subst ha
  exact va_putF F.1 F.2.1 (Ts := Wall) F.2.2.2.2.1 hin ty0 hty hnm F.2.2.2.1 F.2.2.2.2.2.1 hP hD hS h (wld_at hh hC) hc k hk (F.2.2.2.2.1 _ hlink) (fun _ h9 => h9) hfin hin2 hdecl (hty k hk) hn hfit hl hdg (fun H1 locs1 hP1 hD1 hS1 => kk H1 locs1 (by rw [wld_set hu] at hP1; exact hP1) (wld_setD hD1 hu) hS1)
/-- another field -/
theorem g_put (F : gFix p s m c args cc own nL D Y ad0 N0 sz) (hP : wP D ad N C H) (hD : va_D (gA ad0 N0 sz) (wld ad N C)) (hS : va_S (gA ad0 N0 sz) s.heap H locs) {a : Nat} {h ci : Nat} {fs : List Value} (ha : a = ad h) (hh : h < N) (hC : C h = .inr (ci, fs)) {Cn : String} {T : u_T} {Nf index : Nat} (hc : vwCl[ci]? = some (Cn, T, Nf)) (hin : ∀ w ∈ u_ws Cn T Nf, w ∈ Wall) (ty0 : Nat → FieldType) (hty : ∀ k, k < Nf → parseFieldDescriptor (T k).2.2.1 = some (ty0 k)) (hnm : ∀ a, a < Nf → ∀ b, b < Nf → a ≠ b → (T a).2.1 ≠ (T b).2.1) (k : Nat) (hk : k < Nf) (hlink : Cond.fieldLink own index (T k).1 (T k).2.1 (T k).2.2.1 ∈ Wall) (hfin : (T k).2.2.2 = false) {v : Value} (hn : narrow (ty0 k) v = v) (hfit : fits (ty0 k) v = true) (hl : k < fs.length) (hu : ∀ j, va_up C h (.inr (ci, fs.set k v)) j = C1 j) (hdg : decode cc pc = .ok (.putfield index, 3))
    (kk : ∀ (H1 : Heap) (locs1 : List Loc), wP D ad N C1 H1 → va_D (gA ad0 N0 sz) (wld ad N C1) → va_S (gA ad0 N0 sz) s.heap H1 locs1 → W p l e R s m args below meth c H1 locs1 cells slots Q (F0 m (pc + 3) ls rest)) : W p l e R s m args below meth c H locs cells slots Q (F0 m pc ls (v :: .ref a :: rest)) := by
  subst ha
  exact va_put F.1 F.2.1 (Ts := Wall) F.2.2.2.2.1 hin ty0 hty hnm F.2.2.2.1 F.2.2.2.2.2.1 hP hD hS h (wld_at hh hC) hc k hk (F.2.2.2.2.1 _ hlink) (fun _ h9 => h9) hfin (hty k hk) hn hfit hl hdg (fun H1 locs1 hP1 hD1 hS1 => kk H1 locs1 (by rw [wld_set hu] at hP1; exact hP1) (wld_setD hD1 hu) hS1)
/-- ends -/
theorem g_vret {post : (Nat → Nat) → Nat → (Nat → va_E) → Prop} {mc ms : Nat} (F : gFix p s m c args cc own nL D Y ad0 N0 sz) (hr : meth.sig.returnType = none) (hlocks : meth.locks = false) (hP : wP D ad N C H) (hS : va_S (gA ad0 N0 sz) s.heap H locs) (hcs : cells = mc ∧ slots = ms) (hdg : decode cc pc = .ok (.return_, 1)) (hg : N0 ≤ N ∧ (∀ i, i < N0 → ad i = ad0 i) ∧ wI ad N ∧ ∀ i, N0 ≤ i → i < N → sz ≤ ad i) (hq : post ad N C) : W p l e R s m args below meth c H locs cells slots (MQ below (gQ D ad0 N0 sz post) args s mc ms (gA ad0 N0 sz)) (F0 m pc ls []) := by
  obtain ⟨rfl, rfl⟩ := hcs
  exact W.vret F.1 F.2.1 hr (fun t ht _ => ⟨⟨(ad, N, C), rfl, ⟨hg, hq⟩, by show wP D ad N C t.heap; rw [ht]; exact hP⟩, hS.F ht⟩) hS.2.2 hdg hlocks
end GROW
/-- a constructor's contract begins -/
theorem gMet {l : Launch} {y : MethodName} {b : ByteArray} {n : Nat} {ret : Option FieldType} {rm : Room} {D : va_G} {Y : Nat → ClassId} {ad : Nat → Nat} {N sz mc ms : Nat} {as : List Value} {C : Nat → va_E} {Qc : Array Value → State → Outcome → State → Prop} {free : Addr → Prop} (own : String) (ho : y.cls = own) (hy : plainName y.cls = true) (hlen : (lg_sl as).length ≤ n) {lv : List (Nat × Value)} (hlv : lv_args 0 as = lv)
    (k : ∀ p e s m below meth c ls, gFix p s m c as.toArray b own n D Y ad N sz → meth.sig.returnType = ret → meth.locks = false → meth.name = y.name → wP D ad N C s.heap → lv_has ls n lv → W p l e rm s m as.toArray below meth c s.heap [] 0 0 (MQ below Qc as.toArray s mc ms free) (F0 m 0 ls [])) :
    Met l y (wm y b n ret) rm (gPc D Y ad N sz as C) Qc mc ms free := by
  refine Met.ofW (cc := b) (maxL := n) (ret := ret) hy rfl ?_
  intro p e s m args below meth c s₁ B hml hv
  obtain ⟨rfl, hz, hP, hK, hE⟩ := hv
  have hts := atoms_spec (ws := wm y b n ret) B.pre
  have hl := lv_entry as (n := n) hlen
  rw [hlv] at hl
  rw [lg_entry_eq]
  exact k p e s m below meth c _ ⟨B.exec, B.bytes, hml, by rw [← ho]; exact findClass_of_methodNamed B.named, fun w hw => hts w (wm_in hw), hK, hE, hz⟩ B.returns B.notSynchronized (name_of_methodNamed B.named B.method).1 hP hl
theorem gPc_blind {D : va_G} {Y : Nat → ClassId} {ad : Nat → Nat} {N sz : Nat} {as : List Value} {C : Nat → va_E} : FrameBlind (gPc D Y ad N sz as C) :=
  fun a U g mk q => ⟨q.1, q.2.1, q.2.2.1, va_K.moved (u := U) (U := U.calling g mk a) (Vm.Alike.refl U.vm) q.2.2.2.1, wN.same (u := U) (U := U.calling g mk a) rfl q.2.2.2.2.1, wSt.moved (u := U) (U := U.calling g mk a) (Vm.Alike.refl U.vm) q.2.2.2.2.2⟩
section GROW2
variable {p : Program} {l : Launch} {e : Env} {R : Room} {s : State} {m : MethodId} {args : Array Value} {below : List Frame} {meth : Method} {c : Code} {H : Heap} {locs : List Loc} {cells slots : Nat} {Q : State → Prop}
variable {cc : ByteArray} {pc : Nat} {ls : Array Slot} {rest : List Value} {D : va_G} {Y : Nat → ClassId} {ad ad0 : Nat → Nat} {N N0 sz : Nat} {C C1 : Nat → va_E} {own : String} {nL : Nat}
theorem gA_sub (F : gFix p s m c args cc own nL D Y ad0 N0 sz) (hD : va_D (gA ad0 N0 sz) (wld ad N C)) (hS : va_S (gA ad0 N0 sz) s.heap H locs) : ∀ q, gA ad N H.size q → gA ad0 N0 sz q := by
  intro q h
  rcases h with ⟨i, hi, rfl⟩ | h
  · exact wA_of hD hi
  · exact Or.inr (by have := hS.1; have := F.2.2.2.2.2.2.2; omega)
theorem gEnv_at (F : gFix p s m c args cc own nL D Y ad0 N0 sz) (hD : va_D (gA ad0 N0 sz) (wld ad N C)) (hS : va_S (gA ad0 N0 sz) s.heap H locs) {U : State} (hU : U.heap = H) (hW : s.WarmedH U.vm) : wEnv (gA ad N H.size) U :=
  ⟨wN.warm hW F.2.2.2.2.2.2.1.1, by rw [hU]; exact ((F.2.2.2.2.2.2.1.2.kept hS.2.1).narrow (gA_sub F hD hS)).moved hW.alike⟩
/-- a constructor is called -/
theorem g_init (F : gFix p s m c args cc own nL D Y ad0 N0 sz) (hP : wP D ad N C H) (hD : va_D (gA ad0 N0 sz) (wld ad N C)) (hS : va_S (gA ad0 N0 sz) s.heap H locs) {y : MethodName} {bytes : ByteArray} {maxL mc ms : Nat} {rm : Room} {as : List Value} {h : Nat} {post : (Nat → Nat) → Nat → (Nat → va_E) → Prop} (hM : Met l y (wm y bytes maxL none) rm (gPc D Y ad N H.size (.ref (ad h) :: as) C) (gQ D ad N H.size post) mc ms (gA ad N H.size)) {index n : Nat} (cw : CallB R s args own index y bytes maxL none (wm y bytes maxL none) rm mc ms n ∧ y.name = "<init>" ∧ (Cond.instanceMethod y).before args s = true) (hn : as.length = n) (hsz : ls.size = nL) {st : List Value} (hst : st = as.reverse ++ .ref (ad h) :: rest) (hW : (rest.map fun v => v.category).sum ≤ 8) (hdg : decode cc pc = .ok (.invokespecial index, 3)) (hcs : cells + mc ≤ R.cells ∧ slots + ms ≤ R.slots)
    (kk : ∀ (ad1 : Nat → Nat) (N1 : Nat) (C1 : Nat → va_E) (H1 : Heap) (locs1 : List Loc), N ≤ N1 → (∀ i, i < N → ad1 i = ad i) → post ad1 N1 C1 → wP D ad1 N1 C1 H1 → va_D (gA ad0 N0 sz) (wld ad1 N1 C1) → va_S (gA ad0 N0 sz) s.heap H1 locs1 → W p l e R s m args below meth c H1 locs1 (cells + mc) (slots + ms) Q (F0 m (pc + 3) ls rest)) : W p l e R s m args below meth c H locs cells slots Q (F0 m pc ls st) :=
  va_callv (va_runI (As := as) (rest := rest) ⟨F.1, F.2.1, F.2.2.1, F.2.2.2.1, F.2.2.2.2.1⟩ hM cw ⟨gPc_blind, fun U hU hW => ⟨rfl, by rw [hU], by rw [hU]; exact hP, va_K.moved hW.alike F.2.2.2.2.2.1, gEnv_at F hD hS hU hW⟩⟩ rfl hn hsz hst (lv_room hW) hdg hcs) hS (fun q _ h => gA_sub F hD hS q h) (fun q h => gA_sub F hD hS q h) (fun u t H1 locs1 ht hvm hw hB _ _ hS1 => by
    obtain ⟨⟨h1, h2, h3, h4⟩, hq⟩ := hw
    refine kk u.1 u.2.1 u.2.2 H1 locs1 h1 h2 hq (by rw [← ht]; exact hB) ⟨(wD h3).1, fun k q hk => ?_⟩ hS1
    obtain ⟨hk1, rfl⟩ := wld_inv hk
    by_cases hk2 : k < N
    · show gA ad0 N0 sz (u.1 k)
      rw [h2 k hk2]; exact wA_of hD hk2
    · exact gA_sub F hD hS _ (Or.inr (h4 k (by omega) hk1)))
end GROW2
section GROW3
variable {p : Program} {l : Launch} {e : Env} {R : Room} {s : State} {m : MethodId} {args : Array Value} {below : List Frame} {meth : Method} {c : Code} {H : Heap} {locs : List Loc} {cells slots : Nat} {Q : State → Prop}
variable {cc : ByteArray} {pc : Nat} {ls : Array Slot} {rest : List Value} {D : va_G} {Y : Nat → ClassId} {ad0 : Nat → Nat} {N0 sz : Nat} {own : String} {nL : Nat}
/-- Object's constructor -/
theorem g_obj (F : gFix p s m c args cc own nL D Y ad0 N0 sz) (hsz : ls.size = nL) {idx a : Nat} (hlink : Cond.methodLink own idx objectInit ∈ Wall) (hframes : 1 ≤ R.frames) (hlocals : (rest.map fun v => v.category).sum + 12 ≤ R.locals) (hdg : decode cc pc = .ok (.invokespecial idx, 3))
    (kk : W p l e R s m args below meth c H locs cells slots Q (F0 m (pc + 3) ls rest)) : W p l e R s m args below meth c H locs cells slots Q (F0 m pc ls (.ref a :: rest)) :=
  W.objInit F.1 F.2.1 F.2.2.2.1 (F.2.2.2.2.1 _ hlink) (F.2.2.2.2.1 _ mw_11) (F.2.2.2.2.1 _ mw_12) rfl (hsz.trans F.2.2.1.symm) rfl hdg hframes (by have e0 : (F0 m pc ls (.ref a :: rest)).monitorRoom = 0 := rfl; omega) kk
end GROW3
theorem g_new_ge {ad : Nat → Nat} {N sz q : Nat} {C : Nat → va_E} (hD : va_D (gA ad N sz) (wld (va_up ad N q) (N + 1) C)) : sz ≤ q := by
  have h := wA_of hD (i := N) (by omega)
  rw [va_up_self] at h
  rcases h with ⟨i, hi, e⟩ | h
  · have h2 := wI_of hD i N (by omega) (by omega) (by rw [va_up_self, va_up_ne _ _ (by omega)]; exact e.symm)
    omega
  · exact h

