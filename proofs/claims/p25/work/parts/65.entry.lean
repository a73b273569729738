/-! What holds at the law's entry -/
theorem wall_hts {b : Nat} {s : State} (hts : ∀ w ∈ lw_tbl, w.before #[Value.ref b] s = true) : ∀ w ∈ Wall, w.before #[Value.ref b] s = true := fun w h => hts w (Wall_in w h)
theorem aoa_spec {args : Array Value} {s : State} {t : FieldType} (h : (Cond.arrayOver (.array t)).before args s = true) :
    ∃ comp c k, s.vm.classes[c]? = some k ∧ k.kind = .array comp (.array t) ∧ s.vm.findClass ("[" ++ (FieldType.array t).toString) = some c := by
  simp only [Cond.before, Cond.holds, Cond.value, beq_iff_eq] at h
  cases hc : s.vm.findClass (FieldType.array t).toString with
  | none => simp [hc] at h
  | some comp =>
    simp only [hc, Option.bind_some, Option.bind_eq_some_iff, Option.map_eq_some_iff] at h
    obtain ⟨c, hi, k, hk, hb⟩ := h
    obtain ⟨hlt, hp, -⟩ := Array.findIdx?_eq_some_iff_getElem.mp hi
    have hkk : s.vm.classes[c] = k := (Array.getElem?_eq_some_iff.mp hk).2
    rw [hkk] at hp
    cases hkind : k.kind with
    | array component ty =>
      rw [hkind] at hb hp
      simp at hb hp
      exact ⟨comp, c, k, hk, by rw [hkind, hp, hb.1], hb.2⟩
    | _ => rw [hkind] at hb; simp at hb
theorem law_K {b : Nat} {s : State} (hts : ∀ w ∈ lw_tbl, w.before #[Value.ref b] s = true) : ∃ (D : va_G) (Y : Nat → ClassId), va_K D vwCl (tyH Y) s := by
  have hw := wall_hts hts
  obtain ⟨c0, i0, h0⟩ := u_known (args := #[Value.ref b]) hw Wi_wsX00 (hw _ mw_18)
  obtain ⟨c1, i1, h1⟩ := u_known (args := #[Value.ref b]) hw Wi_wsX10 (hw _ mw_29)
  obtain ⟨c2, i2, h2⟩ := u_known (args := #[Value.ref b]) hw Wi_wsX20 (hw _ mw_25)
  obtain ⟨c3, i3, h3⟩ := u_known (args := #[Value.ref b]) hw Wi_wsX30 (hw _ mw_47)
  obtain ⟨c4, i4, h4⟩ := u_known (args := #[Value.ref b]) hw Wi_wsX40 (hw _ mw_37)
  obtain ⟨c5, i5, h5⟩ := u_known (args := #[Value.ref b]) hw Wi_wsX50 (hw _ mw_41)
  obtain ⟨c6, i6, h6⟩ := u_known (args := #[Value.ref b]) hw Wi_wsX60 (hw _ mw_14)
  obtain ⟨c7, i7, h7⟩ := u_known (args := #[Value.ref b]) hw Wi_wsX70 (hw _ mw_1)
  obtain ⟨yi, ki, mi, a1, a2, a3⟩ := Cond.arrayClass_spec (hts _ tw_int)
  obtain ⟨yb, kb, mb, b1, b2, b3⟩ := Cond.arrayClass_spec (hts _ tw_bool)
  obtain ⟨mo, yo, ko, o1, -, o2, o3, o4⟩ := Cond.arrayOver_spec (hts _ tw_AO)
  obtain ⟨mg, yg, kg, g2, g3, g4⟩ := aoa_spec (hts _ tw_AOA)
  refine ⟨⟨fun c => match c with | 0 => c0 | 1 => c1 | 2 => c2 | 3 => c3 | 4 => c4 | 5 => c5 | 6 => c6 | _ => c7, fun c => match c with | 0 => i0 | 1 => i1 | 2 => i2 | 3 => i3 | 4 => i4 | 5 => i5 | 6 => i6 | _ => i7⟩, fun c => match c with | 0 => yi | 1 => yb | 2 => yo | _ => yg, fun c q hq => ?_, fun k q hk => ?_⟩
  · match c with
    | 0 => cases hq; exact h0
    | 1 => cases hq; exact h1
    | 2 => cases hq; exact h2
    | 3 => cases hq; exact h3
    | 4 => cases hq; exact h4
    | 5 => cases hq; exact h5
    | 6 => cases hq; exact h6
    | 7 => cases hq; exact h7
    | c + 8 => cases hq
  · match k with
    | 0 => cases hk; exact ⟨fun n z => ⟨(fun k h => by cases h), ki, a2, mi, a3⟩, a1⟩
    | 1 => cases hk; exact ⟨fun n z => ⟨(fun k h => by cases h), kb, b2, mb, b3⟩, b1⟩
    | 2 => cases hk; exact ⟨fun n z => ⟨(fun k h => by cases h), ko, o2, mo, o3⟩, ko, mo, o2, o3, o1, o4⟩
    | 3 => cases hk; exact ⟨fun n z => ⟨(fun k h => by cases h), kg, g2, mg, g3⟩, g4⟩
    | k + 4 => cases hk
theorem law_N {b : Nat} {s : State} (hts : ∀ w ∈ lw_tbl, w.before #[Value.ref b] s = true) : wN s :=
  ⟨fun w h => va_Nw.of (List.all_eq_true.mp Wnest_on w h) (hts w (Wnest_in w h)), hts _ tw_AO, hts _ tw_AOA⟩
/-- a static array's four numbers, out of the words on it -/
theorem st_T {b : Nat} {s : State} {tm : Term} {v : Nat → Int32} {A : Nat → Prop} (harr : (Cond.arrayOf tm .int).before #[Value.ref b] s = true) (hlen : (Cond.eq (.length tm) (.int 4)).before #[Value.ref b] s = true) (e0 : (Cond.eq (.elem tm (.int 0)) (.int (v 0))).before #[Value.ref b] s = true) (e1 : (Cond.eq (.elem tm (.int 1)) (.int (v 1))).before #[Value.ref b] s = true) (e2 : (Cond.eq (.elem tm (.int 2)) (.int (v 2))).before #[Value.ref b] s = true) (e3 : (Cond.eq (.elem tm (.int 3)) (.int (v 3))).before #[Value.ref b] s = true) (hA : ∀ a : Nat, a < s.heap.size → ¬ A a) : ∃ t : Nat, tm.eval #[Value.ref b] s none [] s = some (.ref t) ∧ va_T .int t 4 (fun j => .int (v j)) A s s.heap :=
  va_Tof (by decide) harr (va_eqt hlen) (fun j hj => match j, hj with
    | 0, _ => va_eqt e0
    | 1, _ => va_eqt e1
    | 2, _ => va_eqt e2
    | 3, _ => va_eqt e3
    | j + 4, h => absurd h (by omega)) hA
theorem len4 {args : Array Value} {s : State} {tm : Term} {t : Nat} {cell : Cell} (h : (Term.length tm).eval args s none [] s = some (.int 4)) (ht : tm.eval args s none [] s = some (.ref t)) (hc : s.heap[t]? = some cell) : cell.slots.size = 4 := by
  simp only [Term.eval, Option.bind_eq_bind, ht, Option.bind_some] at h
  obtain ⟨cell2, hcell, h⟩ := Option.bind_eq_some_iff.mp h
  have e := (State.arrayAt?_spec hcell).1
  cases hc.symm.trans e
  by_cases hn : cell.slots.size < 2147483648
  · rw [if_pos hn] at h
    have h2 : cell.slots.size.toInt32 = 4 := by injection h with h; injection h
    have h3 : (Int32.ofNat cell.slots.size).toNatClampNeg = cell.slots.size := Int32.toNatClampNeg_ofNat_of_lt hn
    have h4 : Int32.ofNat cell.slots.size = 4 := h2
    rw [h4] at h3
    exact h3.symm
  · rw [if_neg hn] at h; cases h
theorem law_St {b : Nat} {s : State} (hts : ∀ w ∈ lw_tbl, w.before #[Value.ref b] s = true) (hgv : (Jvm.Cond.and given_1 narrow_1).before #[Value.ref b] s = true) {A : Nat → Prop} (hA : ∀ a : Nat, a < s.heap.size → ¬ A a) : wSt A s s.heap := by
  have hs := flat_of_before _ hgv
  obtain ⟨tL, eL, hL⟩ := st_T (tm := .static "HoopStairs$Settings" "LEAST" "[I") (v := LEv) (A := A) (hs _ (by decide +kernel)) (hs _ (by decide +kernel)) (hs _ (by decide +kernel)) (hs _ (by decide +kernel)) (hs _ (by decide +kernel)) (hs _ (by decide +kernel)) hA
  obtain ⟨tG, eG, hG⟩ := st_T (tm := .static "HoopStairs$Settings" "GREATEST" "[I") (v := GRv) (A := A) (hs _ (by decide +kernel)) (hs _ (by decide +kernel)) (hs _ (by decide +kernel)) (hs _ (by decide +kernel)) (hs _ (by decide +kernel)) (hs _ (by decide +kernel)) hA
  have harr : (Cond.arrayOf (.static "HoopStairs$Settings" "FIRST" "[I") .int).before #[Value.ref b] s = true := hs _ (by decide +kernel)
  have hlen : (Cond.eq (.length (.static "HoopStairs$Settings" "FIRST" "[I")) (.int 4)).before #[Value.ref b] s = true := hs _ (by decide +kernel)
  have hex : (Cond.exactly (.static "HoopStairs$Settings" "FIRST" "[I") "[I").before #[Value.ref b] s = true := hs _ (by decide +kernel)
  obtain ⟨tF, eF, cell, f1, f2, f3, f4, f5, f6, f7⟩ := st_T (tm := .static "HoopStairs$Settings" "FIRST" "[I") (v := FIv) (A := A) harr hlen (hs _ (by decide +kernel)) (hs _ (by decide +kernel)) (hs _ (by decide +kernel)) (hs _ (by decide +kernel)) hA
  obtain ⟨a, c9, cell9, k9, x1, x2, x3, -, -, x4, -⟩ := Cond.exactly_spec hex
  cases eF.symm.trans x1
  cases f1.symm.trans x3
  refine ⟨⟨tL, va_Zref (hts _ tw_sL) (hts _ tw_iS) eL hA, hL⟩, ⟨tG, va_Zref (hts _ tw_sG) (hts _ tw_iS) eG hA, hG⟩, tF, cell, va_Zref (hts _ tw_sF) (hts _ tw_iS) eF hA, f1, f2, f3, ?_, len4 (va_eqt hlen) eF f1, f6, f7⟩
  rw [x4]
  exact x2
