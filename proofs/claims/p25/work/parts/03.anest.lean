/-! The environment: what the tables say beyond the words (fields of a nest mate, arrays of arrays), and the three arrays of numbers that the class keeps in statics. -/
def Wnest : List Cond := [Cond.fieldLinkNest RX6 69 "HoopStairs$Stair" "length" "I" "HoopStairs", Cond.fieldLinkNest RX7 224 "HoopStairs$Stair" "length" "I" "HoopStairs", Cond.fieldLinkNest RX7 114 "HoopStairs$Hoop" "there" "Z" "HoopStairs", Cond.fieldLinkNest RX3 28 "HoopStairs$Hoop" "size" "I" "HoopStairs", Cond.fieldLinkNest RX7 141 "HoopStairs$Hoop" "size" "I" "HoopStairs", Cond.fieldLinkNest RX6 126 "HoopStairs$Hoop" "speed" "I" "HoopStairs", Cond.fieldLinkNest RX7 144 "HoopStairs$Hoop" "speed" "I" "HoopStairs", Cond.fieldLinkNest RX6 120 "HoopStairs$Hoop" "lean" "I" "HoopStairs", Cond.fieldLinkNest RX7 147 "HoopStairs$Hoop" "lean" "I" "HoopStairs", Cond.fieldLinkNest RX7 150 "HoopStairs$Hoop" "wobble" "I" "HoopStairs", Cond.fieldLinkNest RX3 36 "HoopStairs$Hoop" "place" "I" "HoopStairs", Cond.fieldLinkNest RX6 104 "HoopStairs$Hoop" "place" "I" "HoopStairs", Cond.fieldLinkNest RX7 153 "HoopStairs$Hoop" "place" "I" "HoopStairs", Cond.fieldLinkNest RX3 33 "HoopStairs$Hoop" "ending" "I" "HoopStairs", Cond.fieldLinkNest RX6 101 "HoopStairs$Hoop" "ending" "I" "HoopStairs", Cond.fieldLinkNest RX7 156 "HoopStairs$Hoop" "ending" "I" "HoopStairs", Cond.fieldLinkNest RX3 39 "HoopStairs$Hoop" "taps" "I" "HoopStairs", Cond.fieldLinkNest RX7 159 "HoopStairs$Hoop" "taps" "I" "HoopStairs", Cond.fieldLinkNest RX7 162 "HoopStairs$Hoop" "pushes" "I" "HoopStairs", Cond.fieldLinkNest RX7 173 "HoopStairs$Hoop" "greatestLean" "I" "HoopStairs", Cond.fieldLinkNest RX7 45 "HoopStairs$State" "settings" "LHoopStairs$Settings;" "HoopStairs", Cond.fieldLinkNest RX7 70 "HoopStairs$State" "stair" "LHoopStairs$Stair;" "HoopStairs", Cond.fieldLinkNest RX7 111 "HoopStairs$State" "hoop" "LHoopStairs$Hoop;" "HoopStairs", Cond.fieldLinkNest RX7 122 "HoopStairs$State" "log" "LHoopStairs$RunLog;" "HoopStairs", Cond.fieldLinkNest RX7 134 "HoopStairs$History" "length" "I" "HoopStairs", Cond.fieldLinkNest RX7 130 "HoopStairs$Pad" "length" "I" "HoopStairs", Cond.castable "[I" "java/lang/Cloneable"]
theorem nw_X6_69 : Cond.fieldLinkNest RX6 69 "HoopStairs$Stair" "length" "I" "HoopStairs" ∈ Wnest := List.mem_of_getElem? (i := 0) rfl
theorem nw_X7_224 : Cond.fieldLinkNest RX7 224 "HoopStairs$Stair" "length" "I" "HoopStairs" ∈ Wnest := List.mem_of_getElem? (i := 1) rfl
theorem nw_X7_114 : Cond.fieldLinkNest RX7 114 "HoopStairs$Hoop" "there" "Z" "HoopStairs" ∈ Wnest := List.mem_of_getElem? (i := 2) rfl
theorem nw_X3_28 : Cond.fieldLinkNest RX3 28 "HoopStairs$Hoop" "size" "I" "HoopStairs" ∈ Wnest := List.mem_of_getElem? (i := 3) rfl
theorem nw_X7_141 : Cond.fieldLinkNest RX7 141 "HoopStairs$Hoop" "size" "I" "HoopStairs" ∈ Wnest := List.mem_of_getElem? (i := 4) rfl
theorem nw_X6_126 : Cond.fieldLinkNest RX6 126 "HoopStairs$Hoop" "speed" "I" "HoopStairs" ∈ Wnest := List.mem_of_getElem? (i := 5) rfl
theorem nw_X7_144 : Cond.fieldLinkNest RX7 144 "HoopStairs$Hoop" "speed" "I" "HoopStairs" ∈ Wnest := List.mem_of_getElem? (i := 6) rfl
theorem nw_X6_120 : Cond.fieldLinkNest RX6 120 "HoopStairs$Hoop" "lean" "I" "HoopStairs" ∈ Wnest := List.mem_of_getElem? (i := 7) rfl
theorem nw_X7_147 : Cond.fieldLinkNest RX7 147 "HoopStairs$Hoop" "lean" "I" "HoopStairs" ∈ Wnest := List.mem_of_getElem? (i := 8) rfl
theorem nw_X7_150 : Cond.fieldLinkNest RX7 150 "HoopStairs$Hoop" "wobble" "I" "HoopStairs" ∈ Wnest := List.mem_of_getElem? (i := 9) rfl
theorem nw_X3_36 : Cond.fieldLinkNest RX3 36 "HoopStairs$Hoop" "place" "I" "HoopStairs" ∈ Wnest := List.mem_of_getElem? (i := 10) rfl
theorem nw_X6_104 : Cond.fieldLinkNest RX6 104 "HoopStairs$Hoop" "place" "I" "HoopStairs" ∈ Wnest := List.mem_of_getElem? (i := 11) rfl
theorem nw_X7_153 : Cond.fieldLinkNest RX7 153 "HoopStairs$Hoop" "place" "I" "HoopStairs" ∈ Wnest := List.mem_of_getElem? (i := 12) rfl
theorem nw_X3_33 : Cond.fieldLinkNest RX3 33 "HoopStairs$Hoop" "ending" "I" "HoopStairs" ∈ Wnest := List.mem_of_getElem? (i := 13) rfl
theorem nw_X6_101 : Cond.fieldLinkNest RX6 101 "HoopStairs$Hoop" "ending" "I" "HoopStairs" ∈ Wnest := List.mem_of_getElem? (i := 14) rfl
theorem nw_X7_156 : Cond.fieldLinkNest RX7 156 "HoopStairs$Hoop" "ending" "I" "HoopStairs" ∈ Wnest := List.mem_of_getElem? (i := 15) rfl
theorem nw_X3_39 : Cond.fieldLinkNest RX3 39 "HoopStairs$Hoop" "taps" "I" "HoopStairs" ∈ Wnest := List.mem_of_getElem? (i := 16) rfl
theorem nw_X7_159 : Cond.fieldLinkNest RX7 159 "HoopStairs$Hoop" "taps" "I" "HoopStairs" ∈ Wnest := List.mem_of_getElem? (i := 17) rfl
theorem nw_X7_162 : Cond.fieldLinkNest RX7 162 "HoopStairs$Hoop" "pushes" "I" "HoopStairs" ∈ Wnest := List.mem_of_getElem? (i := 18) rfl
theorem nw_X7_173 : Cond.fieldLinkNest RX7 173 "HoopStairs$Hoop" "greatestLean" "I" "HoopStairs" ∈ Wnest := List.mem_of_getElem? (i := 19) rfl
theorem nw_X7_45 : Cond.fieldLinkNest RX7 45 "HoopStairs$State" "settings" "LHoopStairs$Settings;" "HoopStairs" ∈ Wnest := List.mem_of_getElem? (i := 20) rfl
theorem nw_X7_70 : Cond.fieldLinkNest RX7 70 "HoopStairs$State" "stair" "LHoopStairs$Stair;" "HoopStairs" ∈ Wnest := List.mem_of_getElem? (i := 21) rfl
theorem nw_X7_111 : Cond.fieldLinkNest RX7 111 "HoopStairs$State" "hoop" "LHoopStairs$Hoop;" "HoopStairs" ∈ Wnest := List.mem_of_getElem? (i := 22) rfl
theorem nw_X7_122 : Cond.fieldLinkNest RX7 122 "HoopStairs$State" "log" "LHoopStairs$RunLog;" "HoopStairs" ∈ Wnest := List.mem_of_getElem? (i := 23) rfl
theorem nw_X7_134 : Cond.fieldLinkNest RX7 134 "HoopStairs$History" "length" "I" "HoopStairs" ∈ Wnest := List.mem_of_getElem? (i := 24) rfl
theorem nw_X7_130 : Cond.fieldLinkNest RX7 130 "HoopStairs$Pad" "length" "I" "HoopStairs" ∈ Wnest := List.mem_of_getElem? (i := 25) rfl
theorem nw_clone : Cond.castable "[I" "java/lang/Cloneable" ∈ Wnest := List.mem_of_getElem? (i := 26) rfl
def wMv (w : Cond) : Prop := ∀ s U : State, s.WarmedH U.vm → va_Nw w s → va_Nw w U
theorem mvF {a : String} {i : Nat} {b n d h : String} : wMv (.fieldLinkNest a i b n d h) := fun _ _ hW hZ => va_Nw.warmF hW hZ
theorem mvC {a b : String} : wMv (.castable a b) := fun _ _ hW hZ => va_Nw.warmC hW hZ
theorem Wnest_mv : ∀ w ∈ Wnest, wMv w := List.forall_mem_cons.mpr ⟨mvF, List.forall_mem_cons.mpr ⟨mvF, List.forall_mem_cons.mpr ⟨mvF, List.forall_mem_cons.mpr ⟨mvF, List.forall_mem_cons.mpr ⟨mvF, List.forall_mem_cons.mpr ⟨mvF, List.forall_mem_cons.mpr ⟨mvF, List.forall_mem_cons.mpr ⟨mvF, List.forall_mem_cons.mpr ⟨mvF, List.forall_mem_cons.mpr ⟨mvF, List.forall_mem_cons.mpr ⟨mvF, List.forall_mem_cons.mpr ⟨mvF, List.forall_mem_cons.mpr ⟨mvF, List.forall_mem_cons.mpr ⟨mvF, List.forall_mem_cons.mpr ⟨mvF, List.forall_mem_cons.mpr ⟨mvF, List.forall_mem_cons.mpr ⟨mvF, List.forall_mem_cons.mpr ⟨mvF, List.forall_mem_cons.mpr ⟨mvF, List.forall_mem_cons.mpr ⟨mvF, List.forall_mem_cons.mpr ⟨mvF, List.forall_mem_cons.mpr ⟨mvF, List.forall_mem_cons.mpr ⟨mvF, List.forall_mem_cons.mpr ⟨mvF, List.forall_mem_cons.mpr ⟨mvF, List.forall_mem_cons.mpr ⟨mvF, List.forall_mem_cons.mpr ⟨mvC, fun _ h => absurd h List.not_mem_nil⟩⟩⟩⟩⟩⟩⟩⟩⟩⟩⟩⟩⟩⟩⟩⟩⟩⟩⟩⟩⟩⟩⟩⟩⟩⟩⟩
theorem Wnest_on : Wnest.all (fun w => w.onTables) = true := by decide +kernel
def LEv (j : Nat) : Int32 := if j = 0 then 10 else if j = 1 then 0 else if j = 2 then 0 else 1
def GRv (j : Nat) : Int32 := if j = 0 then 99 else if j = 1 then 20 else if j = 2 then 20 else 30
def FIv (j : Nat) : Int32 := if j = 0 then 45 else if j = 1 then 4 else if j = 2 then 3 else 8
/-- a static array of four numbers -/
def wS1 (n : String) (v : Nat → Int32) (A : Nat → Prop) (U : State) (H : Heap) : Prop := ∃ t : Nat, va_Z "HoopStairs$Settings" n "[I" (.ref t) A U H ∧ va_T .int t 4 (fun j => .int (v j)) A U H
theorem wS1.moved {n : String} {v : Nat → Int32} {A : Nat → Prop} {u U : State} {H : Heap} (hvm : u.vm.Alike U.vm) (h : wS1 n v A u H) : wS1 n v A U H := by
  obtain ⟨t, h1, h2⟩ := h
  exact ⟨t, h1.moved hvm, h2.moved hvm⟩
theorem wS1.kept {n : String} {v : Nat → Int32} {A : Nat → Prop} {U : State} {H H1 : Heap} (h : wS1 n v A U H) (hq : ∀ a : Nat, a < H.size → ¬ A a → H1[a]? = H[a]?) : wS1 n v A U H1 := by
  obtain ⟨t, h1, h2⟩ := h
  exact ⟨t, h1.kept hq, h2.kept hq⟩
theorem wS1.narrow {n : String} {v : Nat → Int32} {A B : Nat → Prop} {U : State} {H : Heap} (h : wS1 n v A U H) (hAB : ∀ q, B q → A q) : wS1 n v B U H := by
  obtain ⟨t, h1, h2⟩ := h
  exact ⟨t, h1.narrow hAB, h2.narrow hAB⟩
/-- a static array of four numbers, to be cloned -/
def wS4 (n : String) (v : Nat → Int32) (A : Nat → Prop) (U : State) (H : Heap) : Prop := ∃ (t : Nat) (cell : Cell), va_Z "HoopStairs$Settings" n "[I" (.ref t) A U H ∧ H[t]? = some cell ∧ U.isArrayOf cell .int ∧ cell.vm ≠ .unknown ∧ U.vm.findClass "[I" = some cell.cls ∧ cell.slots.size = 4 ∧ (∀ j : Nat, j < 4 → cell.slots[j]? = some (.int (v j))) ∧ ¬ A t
theorem wS4.moved {n : String} {v : Nat → Int32} {A : Nat → Prop} {u U : State} {H : Heap} (hvm : u.vm.Alike U.vm) (h : wS4 n v A u H) : wS4 n v A U H := by
  obtain ⟨t, cell, h1, h2, h3, h4, h5, h6⟩ := h
  exact ⟨t, cell, h1.moved hvm, h2, State.isArrayOf_alike hvm h3, h4, by rw [hvm.findClass]; exact h5, h6⟩
theorem wS4.kept {n : String} {v : Nat → Int32} {A : Nat → Prop} {U : State} {H H1 : Heap} (h : wS4 n v A U H) (hq : ∀ a : Nat, a < H.size → ¬ A a → H1[a]? = H[a]?) : wS4 n v A U H1 := by
  obtain ⟨t, cell, h1, h2, h3, h4, h5, h6, h7, h8⟩ := h
  exact ⟨t, cell, h1.kept hq, by rw [hq t (Array.getElem?_eq_some_iff.mp h2).1 h8]; exact h2, h3, h4, h5, h6, h7, h8⟩
theorem wS4.narrow {n : String} {v : Nat → Int32} {A B : Nat → Prop} {U : State} {H : Heap} (h : wS4 n v A U H) (hAB : ∀ q, B q → A q) : wS4 n v B U H := by
  obtain ⟨t, cell, h1, h2, h3, h4, h5, h6, h7, h8⟩ := h
  exact ⟨t, cell, h1.narrow hAB, h2, h3, h4, h5, h6, h7, fun z => h8 (hAB t z)⟩
def wSt (A : Nat → Prop) (U : State) (H : Heap) : Prop := wS1 "LEAST" LEv A U H ∧ wS1 "GREATEST" GRv A U H ∧ wS4 "FIRST" FIv A U H
theorem wSt.moved {A : Nat → Prop} {u U : State} {H : Heap} (hvm : u.vm.Alike U.vm) (h : wSt A u H) : wSt A U H := ⟨h.1.moved hvm, h.2.1.moved hvm, h.2.2.moved hvm⟩
theorem wSt.kept {A : Nat → Prop} {U : State} {H H1 : Heap} (h : wSt A U H) (hq : ∀ a : Nat, a < H.size → ¬ A a → H1[a]? = H[a]?) : wSt A U H1 := ⟨h.1.kept hq, h.2.1.kept hq, h.2.2.kept hq⟩
theorem wSt.narrow {A B : Nat → Prop} {U : State} {H : Heap} (h : wSt A U H) (hAB : ∀ q, B q → A q) : wSt B U H := ⟨h.1.narrow hAB, h.2.1.narrow hAB, h.2.2.narrow hAB⟩
def va_AOA (ty : FieldType) (U : State) : Prop := (Cond.arrayOver (.array ty)).before #[] U = true
theorem va_AOA.use {ty : FieldType} {A : Array Value} {U : State} (h : va_AOA ty U) : (Cond.arrayOver (.array ty)).before A U = true := h
theorem va_AOA.moved {ty : FieldType} {u U : State} (hvm : u.vm.Alike U.vm) (h : va_AOA ty u) : va_AOA ty U := by
  have e := Cond.arrayOver_setVmC (args := #[]) hvm (.array ty)
  have e2 : (Cond.arrayOver (.array ty)).before #[] U = (Cond.arrayOver (.array ty)).before #[] (u.setVm U.vm) := rfl
  unfold va_AOA
  rw [e2, e]
  exact h
def wN (U : State) : Prop := (∀ w ∈ Wnest, va_Nw w U) ∧ va_AO "HoopStairs$State" U ∧ va_AOA .int U
theorem wN.warm {s U : State} (hW : s.WarmedH U.vm) (h : wN s) : wN U := ⟨fun w hw => Wnest_mv w hw s U hW (h.1 w hw), h.2.1.moved hW.alike, h.2.2.moved hW.alike⟩
theorem wN.same {u U : State} (hv : u.vm = U.vm) (h : wN u) : wN U := ⟨fun w hw => va_Nw.same (List.all_eq_true.mp Wnest_on w hw) hv (h.1 w hw), h.2.1.moved (by rw [hv]; exact Vm.Alike.refl _), h.2.2.moved (by rw [hv]; exact Vm.Alike.refl _)⟩
def wEnv (A : Nat → Prop) (U : State) : Prop := wN U ∧ wSt A U U.heap
