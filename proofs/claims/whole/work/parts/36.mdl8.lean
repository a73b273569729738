/-! HoopStairsModel: its plain calls -/
/-- a HoopStairsModel, as the document's state -/
def mdlA (Y : Nat → ClassId) (ad : Nat → Nat) (C : Nat → va_E) (o : Nat) (f : Nat → Int32) (hs : Nat → Nat → Int32) (kn : Nat) (sl : Nat → Nat → Int32) (sv pd : Nat → Int32) (n : Nat) : Prop :=
  ∃ (s0 pa sla : Nat → Int32) (gr : Int32), C o = mdO ad o (nI kn) (nI n) gr ∧ C (o + 1) = sA Y 0 f s0 ∧ kn ≤ 6 ∧ n ≤ 80 ∧ C (o + 2) = pA Y pa ∧ (∀ i j, i < kn → j < 161 → pa (161 * i + j) = hs i j) ∧ C (o + 3) = .inl (Y 0, 322, .inl sla) ∧ (∀ k j, k < 2 → j < 161 → ¬ sv k = 0 → sla (161 * k + j) = sl k j) ∧ C (o + 4) = .inl (Y 1, 2, .inl sv) ∧ C (o + 5) = .inl (Y 0, 80, .inl pd)
section MK
variable {Y : Nat → ClassId} {ad : Nat → Nat} {C : Nat → va_E} {o : Nat} {r s0 : Nat → Int32} {hs : Nat → Nat → Int32} {k0 nn : Nat} {sl : Nat → Nat → Int32} {sv pd pa sla : Nat → Int32} {gr : Int32}
theorem mdl_mk (hk0 : k0 ≤ 6) (hn80 : nn ≤ 80) (hpa : C (o + 2) = pA Y pa) (hhs : ∀ i j, i < k0 → j < 161 → pa (161 * i + j) = hs i j) (hsl : C (o + 3) = .inl (Y 0, 322, .inl sla)) (hsls : ∀ k j, k < 2 → j < 161 → ¬ sv k = 0 → sla (161 * k + j) = sl k j) (hsv : C (o + 4) = .inl (Y 1, 2, .inl sv)) (hpdd : C (o + 5) = .inl (Y 0, 80, .inl pd)) : mdlA Y ad (mW Y ad C o (nI k0) (nI nn) gr 0 r s0) o r hs k0 sl sv pd nn :=
  ⟨s0, pa, sla, gr, mW_o, mW_s, hk0, hn80, (mW_x (by omega) (by omega)).trans hpa, hhs, (mW_x (by omega) (by omega)).trans hsl, hsls, (mW_x (by omega) (by omega)).trans hsv, (mW_x (by omega) (by omega)).trans hpdd⟩
theorem mdl_rec {pa2 row : Nat → Int32} (hk0 : k0 ≤ 6) (hn80 : nn ≤ 80) (hh2 : ∀ i j, i < K_rec k0 → j < 161 → pa2 (161 * i + j) = H_rec r hs k0 i j) (hsl : C (o + 3) = .inl (Y 0, 322, .inl sla)) (hsls : ∀ k j, k < 2 → j < 161 → ¬ sv k = 0 → sla (161 * k + j) = sl k j) (hsv : C (o + 4) = .inl (Y 1, 2, .inl sv)) (hpdd : C (o + 5) = .inl (Y 0, 80, .inl pd)) : mdlA Y ad (mW Y ad (va_up C (o + 2) (pA Y pa2)) o (nI (K_rec k0)) (nI nn) gr 0 row s0) o row (H_rec r hs k0) (K_rec k0) sl sv pd nn :=
  mdl_mk (by unfold K_rec; split <;> omega) hn80 (va_up_self _ _ _) hh2 ((va_up_ne _ _ (by omega)).trans hsl) hsls ((va_up_ne _ _ (by omega)).trans hsv) ((va_up_ne _ _ (by omega)).trans hpdd)
theorem mfr_0 {kn n : Int32} {P : Nat} : ∀ j, j < o ∨ o + 6 ≤ j → mW Y ad C o kn n gr P r s0 j = C j := fun j hj => mW_x (by omega) (by omega)
theorem mfr_1 {kn n : Int32} {P q : Nat} {e : va_E} (h1 : o ≤ q) (h2 : q < o + 6) : ∀ j, j < o ∨ o + 6 ≤ j → mW Y ad (va_up C q e) o kn n gr P r s0 j = C j := fun j hj => (mW_x (by omega) (by omega)).trans (va_up_ne _ _ (by omega))
theorem pe_neg {x kd v : Int32} (h : ¬ T_pe x kd v r < 0) : T_pe x kd v r = 0 := by
  unfold T_pe at h ⊢
  repeat' split at h
  all_goals first | (exfalso; exact h (by decide)) | skip
  all_goals simp_all
theorem re_neg {x : Int32} (h : ¬ T_re x r < 0) : T_re x r = 0 := by
  unfold T_re at h ⊢
  repeat' split at h
  all_goals first | (exfalso; exact h (by decide)) | skip
  all_goals simp_all
theorem neg_ne {x : Int32} (h : x < 0) : ¬ x = 0 := fun q => by rw [q] at h; exact absurd h (by decide)
end MK
/-- the numbers from a to k have come five places back -/
def D_sh (a k : Nat) (r : Nat → Int32) : Nat → Int32 := fun j => if a ≤ j ∧ j < k then r (j + 5) else r j
theorem D_sh_0 (a : Nat) (r : Nat → Int32) : D_sh a a r = r := funext fun j => if_neg (by omega)
theorem D_sh_s {a k : Nat} {r : Nat → Int32} (h : a ≤ k) : upd (D_sh a k r) k (D_sh a k r (5 + k)) = D_sh a (k + 1) r := by
  funext j
  by_cases q : j = k
  · subst q
    rw [upd_s]
    show (if a ≤ 5 + j ∧ 5 + j < j then r (5 + j + 5) else r (5 + j)) = (if a ≤ j ∧ j < j + 1 then r (j + 5) else r j)
    rw [if_neg (by omega), if_pos (by omega), Nat.add_comm]
  · rw [upd_n q]
    show (if a ≤ j ∧ j < k then r (j + 5) else r j) = (if a ≤ j ∧ j < k + 1 then r (j + 5) else r j)
    by_cases b : a ≤ j ∧ j < k
    · rw [if_pos b, if_pos (by omega)]
    · rw [if_neg b, if_neg (by omega)]
theorem D_sh_lo {a k j : Nat} {r : Nat → Int32} (h : j < a) : D_sh a k r j = r j := if_neg (by omega)
theorem rem_is {p m : Nat} {r : Nat → Int32} (h4 : r 4 = nI m) (hm : 1 ≤ m) (hm2 : m ≤ 20) : upd (D_sh (61 + 5 * p) (61 + 5 * (m - 1)) (upd r 4 (nI (m - 1)))) 5 0 = T_remove p r := by
  funext j
  unfold T_remove
  by_cases a5 : j = 5
  · subst a5; rw [upd_s, if_neg (by decide), if_pos rfl]
  rw [upd_n a5]
  unfold D_sh
  by_cases a4 : j = 4
  · subst a4
    obtain ⟨q, rfl⟩ : ∃ q, m = q + 1 := ⟨m - 1, by omega⟩
    rw [if_neg (by omega), upd_s, if_pos rfl, h4, nI_pred]; rfl
  rw [if_neg a4, if_neg a5, h4, nI_clamp (by omega)]
  by_cases b : 61 + 5 * p ≤ j ∧ j < 61 + 5 * (m - 1)
  · rw [if_pos b, if_pos (by omega), upd_n (by omega)]
  · rw [if_neg b, if_neg (by omega), upd_n a4]
set_option maxRecDepth 20000 in
set_option maxHeartbeats 4000000 in
/-- set -/
theorem c_X8_set (l : Launch) (D : va_G) (Y : Nat → ClassId) (ad : Nat → Nat) (N : Nat) (hI : wI ad N) (C : Nat → va_E) (o : Nat) (hh : o + 6 ≤ N) (gr : Int32) (r s0 : Nat → Int32) (k0 : Nat) (hk0 : k0 ≤ 6) (hs : Nat → Nat → Int32) (pa : Nat → Int32) (hpa : C (o + 2) = pA Y pa) (hhs : ∀ i j, i < k0 → j < 161 → pa (161 * i + j) = hs i j) (sl : Nat → Nat → Int32) (sla sv : Nat → Int32) (hsl : C (o + 3) = .inl (Y 0, 322, .inl sla)) (hsls : ∀ k j, k < 2 → j < 161 → ¬ sv k = 0 → sla (161 * k + j) = sl k j) (hsv : C (o + 4) = .inl (Y 1, 2, .inl sv)) (pd : Nat → Int32) (nn : Nat) (hn80 : nn ≤ 80) (hpdd : C (o + 5) = .inl (Y 0, 80, .inl pd)) (x v : Int32) : Met l yX8_set (wm yX8_set cX8_set 4 (some .int)) { frames := 2, cells := 0, slots := 0, locals := 43 } (wPc D Y ad N [.ref (ad o), .int (x), .int (v)] (mW Y ad C o (nI k0) (nI nn) gr 0 r s0)) (wQi D ad N (fun q C' => ((if T_can x v then (0 : Int32) else -2) = 0 → q = r x.toNatClampNeg ∧ mdlA Y ad C' o (upd r x.toNatClampNeg v) (H_rec r hs k0) (K_rec k0) sl sv pd nn ∧ ∀ j, j < o ∨ o + 6 ≤ j → C' j = C j) ∧ (¬ (if T_can x v then (0 : Int32) else -2) = 0 → q = (if T_can x v then (0 : Int32) else -2) ∧ mdlA Y ad C' o r hs k0 sl sv pd nn ∧ ∀ j, j < o ∨ o + 6 ≤ j → C' j = C j))) 0 0 (wA ad N) := by
  refine wMet RX8 rfl (by decide +kernel) (Nat.le_of_ble_eq_true rfl) (lv := [(0, .ref (ad o)), (1, .int (x)), (2, .int (v))]) rfl ?_
  intro p e s m below meth c ls F hr hlocks hP hl
  have hS : va_S (wA ad N) s.heap s.heap [] := va_S.rf
  refine lv_iload_n F.1 F.2.1 dX8_set_0 rfl (lv_at hl 1 rfl) ?_
  refine lv_iload_n F.1 F.2.1 dX8_set_1 rfl (lv_at hl 2 rfl) ?_
  refine w_calls F hP hS (c_X8_canSet l D Y ad N hI _ x v) (cwSm 2 F.2.2.2.2.1 (fun _ h => h) mw_180 mw_178 mw_179 mw_5 rfl rfl ydX8_canSet ⟨by decide, by decide⟩) rfl hl.1 rfl (Nat.le_of_ble_eq_true rfl) dX8_set_2 ⟨Nat.zero_le _, Nat.zero_le _⟩ (fun rq1 Kq1 H locs hq1 hP hS => ?_)
  obtain ⟨hq1w, hq1r⟩ := hq1; rw [hq1w] at hP
  refine lv_if_ne (tgt := 11) F.1 F.2.1 dX8_set_5 (by decide) (fun c2 => ?_) (fun c2 => ?_)
  · refine lv_aload_n F.1 F.2.1 dX8_set_11 rfl (lv_at hl 0 rfl) ?_
    refine w_callv F hP hS (c_X8_remembers l D Y ad N hI C o hh (nI nn) gr r s0 k0 hk0 hs pa hpa hhs) (cwVm 0 F.2.2.2.2.1 (fun _ h => h) mw_187 mw_184 mw_185 mw_186 mw_5 rfl rfl ydX8_remembers ⟨by decide, by decide⟩) (by omega) mW_o rfl rfl hl.1 rfl (Nat.le_of_ble_eq_true rfl) dX8_set_12 ⟨Nat.zero_le _, Nat.zero_le _⟩ (fun Kq H locs hq hP hS => ?_)
    obtain ⟨pa2, hqw, hh2⟩ := hq
    subst hqw
    obtain ⟨k, hk, ek⟩ := can_in (b_t hq1r c2)
    have ecl : x.toNatClampNeg = k := by rw [ek]; exact nI_clamp (by omega)
    refine lv_aload_n F.1 F.2.1 dX8_set_15 rfl (lv_at hl 0 rfl) ?_
    refine gf_X8_7 F hP (by omega) mW_o (v := .ref (ad (o + 1))) rfl dX8_set_16 ?_
    refine lv_iload_n F.1 F.2.1 dX8_set_19 rfl (lv_at hl 1 rfl) ?_
    refine w_iald F hP (by omega) mW_s (k := k) ek (by omega) (Nat.le_of_ble_eq_true rfl) (v := r k) (put_at (k := k) (by omega) (by omega)) dX8_set_20 ?_
    refine lv_istore_n (lv' := [(3, .int (r k)), (0, .ref (ad o)), (1, .int (x)), (2, .int (v))]) F.1 F.2.1 dX8_set_21 rfl hl (by decide) rfl (fun ls hl => ?_)
    refine lv_aload_n F.1 F.2.1 dX8_set_22 rfl (lv_at hl 1 rfl) ?_
    refine gf_X8_7 F hP (by omega) mW_o (v := .ref (ad (o + 1))) rfl dX8_set_23 ?_
    refine lv_iload_n F.1 F.2.1 dX8_set_26 rfl (lv_at hl 2 rfl) ?_
    refine lv_iload_n F.1 F.2.1 dX8_set_27 rfl (lv_at hl 3 rfl) ?_
    refine w_iast F hI hP hS (by omega) mW_s (k := k) ek (by omega) (Nat.le_of_ble_eq_true rfl) (C1 := mW Y ad (va_up C (o + 2) (pA Y pa2)) o (nI (K_rec k0)) (nI nn) gr 0 (upd r k v) s0) (fun q => congrFun (mW_upds (k := k) (by omega) (by omega)) q) dX8_set_28 (fun H locs hP hS => ?_)
    refine lv_iload_n F.1 F.2.1 dX8_set_29 rfl (lv_at hl 0 rfl) ?_
    exact w_iret F hr hlocks hP hS dX8_set_30 ⟨fun _ => ⟨by rw [ecl], by rw [ecl]; exact mdl_rec hk0 hn80 hh2 hsl hsls hsv hpdd, mfr_1 (by omega) (by omega)⟩, fun q => absurd (if_pos (b_t hq1r c2)) q⟩
  · refine lv_bipush (v := (-2)) F.1 F.2.1 dX8_set_8 (by decide) ?_
    exact w_iret F hr hlocks hP hS dX8_set_10 ⟨fun q => absurd q (by rw [if_neg (b_f hq1r c2)]; decide), fun _ => ⟨(if_neg (b_f hq1r c2)).symm, mdl_mk hk0 hn80 hpa hhs hsl hsls hsv hpdd, mfr_0⟩⟩
theorem cm_X8_set (l : Launch) (D : va_G) (Y : Nat → ClassId) (ad : Nat → Nat) (N : Nat) (hI : wI ad N) (C : Nat → va_E) (o : Nat) (hh : o + 6 ≤ N) (f : Nat → Int32) (hs : Nat → Nat → Int32) (kn : Nat) (sl : Nat → Nat → Int32) (sv pd : Nat → Int32) (n : Nat) (hA : mdlA Y ad C o f hs kn sl sv pd n) (x v : Int32) : Met l yX8_set (wm yX8_set cX8_set 4 (some .int)) { frames := 2, cells := 0, slots := 0, locals := 43 } (wPc D Y ad N [.ref (ad o), .int (x), .int (v)] C) (wQi D ad N (fun q C' => ((if T_can x v then (0 : Int32) else -2) = 0 → q = f x.toNatClampNeg ∧ mdlA Y ad C' o (upd f x.toNatClampNeg v) (H_rec f hs kn) (K_rec kn) sl sv pd n ∧ ∀ j, j < o ∨ o + 6 ≤ j → C' j = C j) ∧ (¬ (if T_can x v then (0 : Int32) else -2) = 0 → q = (if T_can x v then (0 : Int32) else -2) ∧ mdlA Y ad C' o f hs kn sl sv pd n ∧ ∀ j, j < o ∨ o + 6 ≤ j → C' j = C j))) 0 0 (wA ad N) := by
  obtain ⟨s0, pa, sla, gr, h1, h2, h3, h4, h5, h6, h7, h8, h9, h10⟩ := hA
  have h := c_X8_set l D Y ad N hI C o hh gr f s0 kn h3 hs pa h5 h6 sl sla sv h7 h8 h9 pd n h4 h10 x v
  rw [← mW_id h1 h2] at h
  exact h
set_option maxRecDepth 20000 in
set_option maxHeartbeats 4000000 in
/-- part -/
theorem c_X8_part (l : Launch) (D : va_G) (Y : Nat → ClassId) (ad : Nat → Nat) (N : Nat) (hI : wI ad N) (C : Nat → va_E) (o : Nat) (hh : o + 6 ≤ N) (gr : Int32) (r s0 : Nat → Int32) (k0 : Nat) (hk0 : k0 ≤ 6) (hs : Nat → Nat → Int32) (pa : Nat → Int32) (hpa : C (o + 2) = pA Y pa) (hhs : ∀ i j, i < k0 → j < 161 → pa (161 * i + j) = hs i j) (sl : Nat → Nat → Int32) (sla sv : Nat → Int32) (hsl : C (o + 3) = .inl (Y 0, 322, .inl sla)) (hsls : ∀ k j, k < 2 → j < 161 → ¬ sv k = 0 → sla (161 * k + j) = sl k j) (hsv : C (o + 4) = .inl (Y 1, 2, .inl sv)) (pd : Nat → Int32) (nn : Nat) (hn80 : nn ≤ 80) (hpdd : C (o + 5) = .inl (Y 0, 80, .inl pd)) (x kd v : Int32) (B : Int) (hok : okRow B r) (hBb : B + 60000 ≤ 900000000) (hB0 : 0 ≤ B) : Met l yX8_part (wm yX8_part cX8_part 5 (some .int)) { frames := 2, cells := 0, slots := 0, locals := 46 } (wPc D Y ad N [.ref (ad o), .int (x), .int (kd), .int (v)] (mW Y ad C o (nI k0) (nI nn) gr 0 r s0)) (wQi D ad N (fun q C' => ((T_pe x kd v r) = 0 → q = T_insert x.toNatClampNeg kd v r 4 ∧ mdlA Y ad C' o (T_insert x.toNatClampNeg kd v r) (H_rec r hs k0) (K_rec k0) sl sv pd nn ∧ ∀ j, j < o ∨ o + 6 ≤ j → C' j = C j) ∧ (¬ (T_pe x kd v r) = 0 → q = (T_pe x kd v r) ∧ mdlA Y ad C' o r hs k0 sl sv pd nn ∧ ∀ j, j < o ∨ o + 6 ≤ j → C' j = C j))) 0 0 (wA ad N) := by
  refine wMet RX8 rfl (by decide +kernel) (Nat.le_of_ble_eq_true rfl) (lv := [(0, .ref (ad o)), (1, .int (x)), (2, .int (kd)), (3, .int (v))]) rfl ?_
  intro p e s m below meth c ls F hr hlocks hP hl
  have hS : va_S (wA ad N) s.heap s.heap [] := va_S.rf
  refine lv_aload_n F.1 F.2.1 dX8_part_0 rfl (lv_at hl 0 rfl) ?_
  refine lv_iload_n F.1 F.2.1 dX8_part_1 rfl (lv_at hl 1 rfl) ?_
  refine lv_iload_n F.1 F.2.1 dX8_part_2 rfl (lv_at hl 2 rfl) ?_
  refine lv_iload_n F.1 F.2.1 dX8_part_3 rfl (lv_at hl 3 rfl) ?_
  refine w_calli F hP hS (c_X8_whyNotPart l D Y ad N hI C o hh (nI k0) (nI nn) gr r s0 x kd v hok.1) (cwVm 3 F.2.2.2.2.1 (fun _ h => h) mw_219 mw_216 mw_217 mw_218 mw_5 rfl rfl ydX8_whyNotPart ⟨by decide, by decide⟩) (by omega) mW_o rfl rfl hl.1 rfl (Nat.le_of_ble_eq_true rfl) dX8_part_4 ⟨Nat.zero_le _, Nat.zero_le _⟩ (fun rq1 Kq1 H locs hq1 hP hS => ?_)
  obtain ⟨hq1w, hq1r⟩ := hq1; subst hq1w
  subst hq1r
  refine lv_istore (lv' := [(4, .int (T_pe x kd v r)), (0, .ref (ad o)), (1, .int (x)), (2, .int (kd)), (3, .int (v))]) F.1 F.2.1 dX8_part_7 hl (by decide) rfl (fun ls hl => ?_)
  refine lv_iload F.1 F.2.1 dX8_part_9 (lv_at hl 0 rfl) ?_
  refine lv_if_ge (tgt := 17) F.1 F.2.1 dX8_part_11 (by decide) (fun c2 => ?_) (fun c2 => ?_)
  · have he0 := pe_neg (i_nlt c2)
    obtain ⟨kp, m4, ek, hk4, hm4, h4, hcl, hokp⟩ := pe_0 he0 hok.1
    have hcl2 : (r 4).toNatClampNeg = m4 := by rw [h4]; exact nI_clamp (by omega)
    refine lv_aload_n F.1 F.2.1 dX8_part_17 rfl (lv_at hl 1 rfl) ?_
    refine w_callv F hP hS (c_X8_remembers l D Y ad N hI C o hh (nI nn) gr r s0 k0 hk0 hs pa hpa hhs) (cwVm 0 F.2.2.2.2.1 (fun _ h => h) mw_187 mw_184 mw_185 mw_186 mw_5 rfl rfl ydX8_remembers ⟨by decide, by decide⟩) (by omega) mW_o rfl rfl hl.1 rfl (Nat.le_of_ble_eq_true rfl) dX8_part_18 ⟨Nat.zero_le _, Nat.zero_le _⟩ (fun Kq H locs hq hP hS => ?_)
    obtain ⟨pa2, hqw, hh2⟩ := hq
    subst hqw
    refine lv_aload_n F.1 F.2.1 dX8_part_21 rfl (lv_at hl 1 rfl) ?_
    refine lv_iload_n F.1 F.2.1 dX8_part_22 rfl (lv_at hl 2 rfl) ?_
    refine lv_iload_n F.1 F.2.1 dX8_part_23 rfl (lv_at hl 3 rfl) ?_
    refine lv_iload_n F.1 F.2.1 dX8_part_24 rfl (lv_at hl 4 rfl) ?_
    refine w_calli F hP hS (c_X8_comes l D Y ad N hI (va_up C (o + 2) (pA Y pa2)) o hh (nI (K_rec k0)) (nI nn) gr r s0 kp m4 hk4 hm4 h4 hcl2 x ek kd v) (cwVm 3 F.2.2.2.2.1 (fun _ h => h) mw_223 mw_220 mw_221 mw_222 mw_5 rfl rfl ydX8_comes ⟨by decide, by decide⟩) (by omega) mW_o rfl rfl hl.1 rfl (Nat.le_of_ble_eq_true rfl) dX8_part_25 ⟨Nat.zero_le _, Nat.zero_le _⟩ (fun rq3 Kq3 H locs hq3 hP hS => ?_)
    obtain ⟨hq3w, hq3r⟩ := hq3; subst hq3w
    subst hq3r
    exact w_iret F hr hlocks hP hS dX8_part_28 ⟨fun _ => ⟨by rw [hcl], by rw [hcl]; exact mdl_rec hk0 hn80 hh2 hsl hsls hsv hpdd, mfr_1 (by omega) (by omega)⟩, fun q => absurd he0 q⟩
  · refine lv_iload F.1 F.2.1 dX8_part_14 (lv_at hl 0 rfl) ?_
    exact w_iret F hr hlocks hP hS dX8_part_16 ⟨fun q => absurd q (neg_ne (i_lt c2)), fun _ => ⟨rfl, mdl_mk hk0 hn80 hpa hhs hsl hsls hsv hpdd, mfr_0⟩⟩
theorem cm_X8_part (l : Launch) (D : va_G) (Y : Nat → ClassId) (ad : Nat → Nat) (N : Nat) (hI : wI ad N) (C : Nat → va_E) (o : Nat) (hh : o + 6 ≤ N) (f : Nat → Int32) (hs : Nat → Nat → Int32) (kn : Nat) (sl : Nat → Nat → Int32) (sv pd : Nat → Int32) (n : Nat) (hA : mdlA Y ad C o f hs kn sl sv pd n) (x kd v : Int32) (B : Int) (hok : okRow B f) (hBb : B + 60000 ≤ 900000000) (hB0 : 0 ≤ B) : Met l yX8_part (wm yX8_part cX8_part 5 (some .int)) { frames := 2, cells := 0, slots := 0, locals := 46 } (wPc D Y ad N [.ref (ad o), .int (x), .int (kd), .int (v)] C) (wQi D ad N (fun q C' => ((T_pe x kd v f) = 0 → q = T_insert x.toNatClampNeg kd v f 4 ∧ mdlA Y ad C' o (T_insert x.toNatClampNeg kd v f) (H_rec f hs kn) (K_rec kn) sl sv pd n ∧ ∀ j, j < o ∨ o + 6 ≤ j → C' j = C j) ∧ (¬ (T_pe x kd v f) = 0 → q = (T_pe x kd v f) ∧ mdlA Y ad C' o f hs kn sl sv pd n ∧ ∀ j, j < o ∨ o + 6 ≤ j → C' j = C j))) 0 0 (wA ad N) := by
  obtain ⟨s0, pa, sla, gr, h1, h2, h3, h4, h5, h6, h7, h8, h9, h10⟩ := hA
  have h := c_X8_part l D Y ad N hI C o hh gr f s0 kn h3 hs pa h5 h6 sl sla sv h7 h8 h9 pd n h4 h10 x kd v B hok hBb hB0
  rw [← mW_id h1 h2] at h
  exact h
theorem part_0 {x : Int32} {f : Nat → Int32} (h : 0 ≤ x ∧ x ≤ f 4 - 1) (hs : okS f) : ∃ kp n : Nat, x = nI kp ∧ kp < n ∧ n ≤ 20 ∧ f 4 = nI n ∧ x.toNatClampNeg = kp ∧ (0 ≤ x ∧ x < f 4 ∧ x < 20) := by
  have a1 := Int32.le_iff_toInt_le.mp h.1
  have a2 := Int32.le_iff_toInt_le.mp h.2
  have z : (0 : Int32).toInt = 0 := rfl
  have o : (1 : Int32).toInt = 1 := rfl
  have t : (20 : Int32).toInt = 20 := rfl
  have s4 := hs.2.2.2.2.1
  have d := i_sub (a := f 4) (b := 1) (by omega) (by omega)
  have hx : 0 ≤ x ∧ x < f 4 ∧ x < 20 := ⟨h.1, Int32.lt_iff_toInt_lt.mpr (by omega), Int32.lt_iff_toInt_lt.mpr (by omega)⟩
  obtain ⟨kp, n, q1, q2, q3, q4, q5⟩ := has_0 hx hs
  exact ⟨kp, n, q1, q2, q3, q4, q5, hx⟩
theorem part_1 {x : Int32} {f : Nat → Int32} (h : 0 ≤ x ∧ x < f 4 ∧ x < 20) (hs : okS f) : 0 ≤ x ∧ x ≤ f 4 - 1 := by
  have a2 := Int32.lt_iff_toInt_lt.mp h.2.1
  have o : (1 : Int32).toInt = 1 := rfl
  have s4 := hs.2.2.2.2.1
  have d := i_sub (a := f 4) (b := 1) (by omega) (by omega)
  exact ⟨h.1, Int32.le_iff_toInt_le.mpr (by omega)⟩
set_option maxRecDepth 20000 in
set_option maxHeartbeats 4000000 in
/-- takeAway -/
theorem c_X8_takeAway (l : Launch) (D : va_G) (Y : Nat → ClassId) (ad : Nat → Nat) (N : Nat) (hI : wI ad N) (C : Nat → va_E) (o : Nat) (hh : o + 6 ≤ N) (gr : Int32) (r s0 : Nat → Int32) (k0 : Nat) (hk0 : k0 ≤ 6) (hs : Nat → Nat → Int32) (pa : Nat → Int32) (hpa : C (o + 2) = pA Y pa) (hhs : ∀ i j, i < k0 → j < 161 → pa (161 * i + j) = hs i j) (sl : Nat → Nat → Int32) (sla sv : Nat → Int32) (hsl : C (o + 3) = .inl (Y 0, 322, .inl sla)) (hsls : ∀ k j, k < 2 → j < 161 → ¬ sv k = 0 → sla (161 * k + j) = sl k j) (hsv : C (o + 4) = .inl (Y 1, 2, .inl sv)) (pd : Nat → Int32) (nn : Nat) (hn80 : nn ≤ 80) (hpdd : C (o + 5) = .inl (Y 0, 80, .inl pd)) (x : Int32) (B : Int) (hok : okRow B r) (hBb : B + 60000 ≤ 900000000) (hB0 : 0 ≤ B) : Met l yX8_takeAway (wm yX8_takeAway cX8_takeAway 3 (some .int)) { frames := 2, cells := 0, slots := 0, locals := 43 } (wPc D Y ad N [.ref (ad o), .int (x)] (mW Y ad C o (nI k0) (nI nn) gr 0 r s0)) (wQi D ad N (fun q C' => ((if 0 ≤ x ∧ x < r 4 ∧ x < 20 then (0 : Int32) else -1) = 0 → q = T_remove x.toNatClampNeg r 4 ∧ mdlA Y ad C' o (T_remove x.toNatClampNeg r) (H_rec r hs k0) (K_rec k0) sl sv pd nn ∧ ∀ j, j < o ∨ o + 6 ≤ j → C' j = C j) ∧ (¬ (if 0 ≤ x ∧ x < r 4 ∧ x < 20 then (0 : Int32) else -1) = 0 → q = (if 0 ≤ x ∧ x < r 4 ∧ x < 20 then (0 : Int32) else -1) ∧ mdlA Y ad C' o r hs k0 sl sv pd nn ∧ ∀ j, j < o ∨ o + 6 ≤ j → C' j = C j))) 0 0 (wA ad N) := by
  refine wMet RX8 rfl (by decide +kernel) (Nat.le_of_ble_eq_true rfl) (lv := [(0, .ref (ad o)), (1, .int (x))]) rfl ?_
  intro p e s m below meth c ls F hr hlocks hP hl
  have hS : va_S (wA ad N) s.heap s.heap [] := va_S.rf
  refine lv_aload_n F.1 F.2.1 dX8_takeAway_0 rfl (lv_at hl 0 rfl) ?_
  refine lv_iload_n F.1 F.2.1 dX8_takeAway_1 rfl (lv_at hl 1 rfl) ?_
  refine w_calli F hP hS (c_X8_isPart l D Y ad N hI C o hh (nI k0) (nI nn) gr r s0 x) (cwVm 1 F.2.2.2.2.1 (fun _ h => h) mw_251 mw_248 mw_249 mw_250 mw_5 rfl rfl ydX8_isPart ⟨by decide, by decide⟩) (by omega) mW_o rfl rfl hl.1 rfl (Nat.le_of_ble_eq_true rfl) dX8_takeAway_2 ⟨Nat.zero_le _, Nat.zero_le _⟩ (fun rq1 Kq1 H locs hq1 hP hS => ?_)
  obtain ⟨hq1w, hq1r⟩ := hq1; subst hq1w
  refine lv_if_ne (tgt := 10) F.1 F.2.1 dX8_takeAway_5 (by decide) (fun c2 => ?_) (fun c2 => ?_)
  · refine lv_aload_n F.1 F.2.1 dX8_takeAway_10 rfl (lv_at hl 0 rfl) ?_
    refine w_callv F hP hS (c_X8_remembers l D Y ad N hI C o hh (nI nn) gr r s0 k0 hk0 hs pa hpa hhs) (cwVm 0 F.2.2.2.2.1 (fun _ h => h) mw_187 mw_184 mw_185 mw_186 mw_5 rfl rfl ydX8_remembers ⟨by decide, by decide⟩) (by omega) mW_o rfl rfl hl.1 rfl (Nat.le_of_ble_eq_true rfl) dX8_takeAway_11 ⟨Nat.zero_le _, Nat.zero_le _⟩ (fun Kq H locs hq hP hS => ?_)
    obtain ⟨pa2, hqw, hh2⟩ := hq
    subst hqw
    obtain ⟨kp, mm, ek, hkm, hm20, h4, hcl, hhas⟩ := part_0 (b_t hq1r c2) hok.1
    refine lv_aload_n F.1 F.2.1 dX8_takeAway_14 rfl (lv_at hl 0 rfl) ?_
    refine gf_X8_7 F hP (by omega) mW_o (v := .ref (ad (o + 1))) rfl dX8_takeAway_15 ?_
    refine lv_iconst (v := 4) F.1 F.2.1 dX8_takeAway_18 (by decide) ?_
    refine lv_dup2_11 F.1 F.2.1 dX8_takeAway_19 rfl rfl ?_
    refine w_iald F hP (by omega) mW_s (k := 4) rfl (by omega) (Nat.le_of_ble_eq_true rfl) (v := r 4) (put_at (k := 4) (by omega) (by omega)) dX8_takeAway_20 ?_
    refine lv_iconst (v := 1) F.1 F.2.1 dX8_takeAway_21 (by decide) ?_
    refine lv_isub F.1 F.2.1 dX8_takeAway_22 ?_
    refine lv_topi (fun v3 ev3 => ?_)
    have ev3 : v3 = nI (mm - 1) := ev3.trans (by rw [h4]; exact pk_sub (b := 1) (by omega))
    subst ev3
    refine w_iast F hI hP hS (by omega) mW_s (k := 4) rfl (by omega) (Nat.le_of_ble_eq_true rfl) (C1 := mW Y ad (va_up C (o + 2) (pA Y pa2)) o (nI (K_rec k0)) (nI nn) gr 0 (upd r 4 (nI (mm - 1))) s0) (fun q => congrFun (mW_upds (k := 4) (by omega) (by omega)) q) dX8_takeAway_23 (fun H locs hP hS => ?_)
    refine lv_iconst (v := 0) F.1 F.2.1 dX8_takeAway_24 (by decide) ?_
    refine lv_iload_n F.1 F.2.1 dX8_takeAway_25 rfl (lv_at hl 1 rfl) ?_
    refine w_calls F hP hS (c_X8_at l D Y ad N hI _ 0 x) (cwSm 2 F.2.2.2.2.1 (fun _ h => h) mw_226 mw_224 mw_225 mw_5 rfl rfl ydX8_at ⟨by decide, by decide⟩) rfl hl.1 rfl (Nat.le_of_ble_eq_true rfl) dX8_takeAway_26 ⟨Nat.zero_le _, Nat.zero_le _⟩ (fun rq4 Kq4 H locs hq4 hP hS => ?_)
    obtain ⟨hq4w, hq4r⟩ := hq4; rw [hq4w] at hP
    subst hq4r
    refine lv_topi (fun v5 ev5 => ?_)
    have ev5 : v5 = nI (61 + 5 * kp) := ev5.trans ((ix_add (X := 0 + 61) (Y := 5 * kp) (Z := 0 + 61 + 5 * kp) (ix_add (X := 0) (Y := 61) (Z := 0 + 61) rfl rfl (by omega)) (ix_mul (X := 5) (Y := kp) rfl ek) (by omega)).trans (congrArg nI (show 0 + 61 + 5 * kp = 61 + 5 * kp by omega)))
    subst ev5
    refine lv_istore_n (lv' := [(2, .int (nI (61 + 5 * kp))), (0, .ref (ad o)), (1, .int (x))]) F.1 F.2.1 dX8_takeAway_29 rfl hl (by decide) rfl (fun ls hl => ?_)
    refine w_loop (Inv := fun j ls C' => ∃ k : Nat, j = 61 + 5 * (mm - 1) - k ∧ 61 + 5 * kp ≤ k ∧ k ≤ 61 + 5 * (mm - 1) ∧ lv_has ls 3 [(2, .int (nI k)), (0, .ref (ad o)), (1, .int x)] ∧ C' = mW Y ad (va_up C (o + 2) (pA Y pa2)) o (nI (K_rec k0)) (nI nn) gr 0 (D_sh (61 + 5 * kp) k (upd r 4 (nI (mm - 1)))) s0) ?_ (61 + 5 * (mm - 1) - (61 + 5 * kp)) ⟨61 + 5 * kp, rfl, Nat.le_refl _, by omega, lv_sub hl [0, 1, 2] rfl, by rw [D_sh_0]⟩ hP hS
    intro j ih H locs ls K0 hInv hP hS
    obtain ⟨k, hj, hk1, hk2, hl, rfl⟩ := hInv
    refine lv_iload_n F.1 F.2.1 dX8_takeAway_30 rfl (lv_at hl 0 rfl) ?_
    refine lv_iconst (v := 0) F.1 F.2.1 dX8_takeAway_31 (by decide) ?_
    refine lv_aload_n F.1 F.2.1 dX8_takeAway_32 rfl (lv_at hl 1 rfl) ?_
    refine gf_X8_7 F hP (by omega) mW_o (v := .ref (ad (o + 1))) rfl dX8_takeAway_33 ?_
    refine lv_iconst (v := 4) F.1 F.2.1 dX8_takeAway_36 (by decide) ?_
    refine w_iald F hP (by omega) mW_s (k := 4) rfl (by omega) (Nat.le_of_ble_eq_true rfl) (v := nI (mm - 1)) ((put_at (k := 4) (by omega) (by omega)).trans (Eq.trans (show _ = (D_sh (61 + 5 * kp) k (upd r 4 (nI (mm - 1)))) 4 from rfl) ((D_sh_lo (by omega)).trans upd_s))) dX8_takeAway_37 ?_
    refine w_calls F hP hS (c_X8_at l D Y ad N hI _ 0 (nI (mm - 1))) (cwSm 2 F.2.2.2.2.1 (fun _ h => h) mw_226 mw_224 mw_225 mw_5 rfl rfl ydX8_at ⟨by decide, by decide⟩) rfl hl.1 rfl (Nat.le_of_ble_eq_true rfl) dX8_takeAway_38 ⟨Nat.zero_le _, Nat.zero_le _⟩ (fun rq6 Kq6 H locs hq6 hP hS => ?_)
    obtain ⟨hq6w, hq6r⟩ := hq6; rw [hq6w] at hP
    subst hq6r
    refine lv_topi (fun v7 ev7 => ?_)
    have ev7 : v7 = nI (61 + 5 * (mm - 1)) := ev7.trans ((ix_add (X := 0 + 61) (Y := 5 * (mm - 1)) (Z := 0 + 61 + 5 * (mm - 1)) (ix_add (X := 0) (Y := 61) (Z := 0 + 61) rfl rfl (by omega)) (ix_mul (X := 5) (Y := mm - 1) rfl rfl) (by omega)).trans (congrArg nI (show 0 + 61 + 5 * (mm - 1) = 61 + 5 * (mm - 1) by omega)))
    subst ev7
    refine lv_icmp_ge (tgt := 64) F.1 F.2.1 dX8_takeAway_41 (by decide) (fun c8 => ?_) (fun c8 => ?_)
    · obtain rfl : k = 61 + 5 * (mm - 1) := Nat.le_antisymm hk2 (Nat.le_of_not_lt (fun z => nI_ge z (by omega) c8))
      refine lv_aload_n F.1 F.2.1 dX8_takeAway_64 rfl (lv_at hl 1 rfl) ?_
      refine gf_X8_7 F hP (by omega) mW_o (v := .ref (ad (o + 1))) rfl dX8_takeAway_65 ?_
      refine lv_iconst (v := 5) F.1 F.2.1 dX8_takeAway_68 (by decide) ?_
      refine lv_iconst (v := 0) F.1 F.2.1 dX8_takeAway_69 (by decide) ?_
      refine w_iast F hI hP hS (by omega) mW_s (k := 5) rfl (by omega) (Nat.le_of_ble_eq_true rfl) (C1 := mW Y ad (va_up C (o + 2) (pA Y pa2)) o (nI (K_rec k0)) (nI nn) gr 0 (upd (D_sh (61 + 5 * kp) (61 + 5 * (mm - 1)) (upd r 4 (nI (mm - 1)))) 5 0) s0) (fun q => congrFun (mW_upds (k := 5) (by omega) (by omega)) q) dX8_takeAway_70 (fun H locs hP hS => ?_)
      refine lv_aload_n F.1 F.2.1 dX8_takeAway_71 rfl (lv_at hl 1 rfl) ?_
      refine gf_X8_7 F hP (by omega) mW_o (v := .ref (ad (o + 1))) rfl dX8_takeAway_72 ?_
      refine lv_iconst (v := 4) F.1 F.2.1 dX8_takeAway_75 (by decide) ?_
      refine w_iald F hP (by omega) mW_s (k := 4) rfl (by omega) (Nat.le_of_ble_eq_true rfl) (v := nI (mm - 1)) ((put_at (k := 4) (by omega) (by omega)).trans (Eq.trans (show _ = (D_sh (61 + 5 * kp) (61 + 5 * (mm - 1)) (upd r 4 (nI (mm - 1)))) 4 from rfl) ((D_sh_lo (by omega)).trans upd_s))) dX8_takeAway_76 ?_
      exact w_iret F hr hlocks hP hS dX8_takeAway_77 ⟨fun _ => ⟨by rw [hcl]; exact (pk_sub (b := 1) (by omega)).symm.trans (by rw [← h4]; rfl), by rw [hcl, ← rem_is h4 (by omega) hm20]; exact mdl_rec hk0 hn80 hh2 hsl hsls hsv hpdd, mfr_1 (by omega) (by omega)⟩, fun q => absurd (if_pos hhas) q⟩
    · have hk3 : k < 61 + 5 * (mm - 1) := Nat.lt_of_not_le (fun z => c8 (nI_le z (by omega)))
      refine lv_aload_n F.1 F.2.1 dX8_takeAway_44 rfl (lv_at hl 1 rfl) ?_
      refine gf_X8_7 F hP (by omega) mW_o (v := .ref (ad (o + 1))) rfl dX8_takeAway_45 ?_
      refine lv_iload_n F.1 F.2.1 dX8_takeAway_48 rfl (lv_at hl 0 rfl) ?_
      refine lv_aload_n F.1 F.2.1 dX8_takeAway_49 rfl (lv_at hl 1 rfl) ?_
      refine gf_X8_7 F hP (by omega) mW_o (v := .ref (ad (o + 1))) rfl dX8_takeAway_50 ?_
      refine lv_iload_n F.1 F.2.1 dX8_takeAway_53 rfl (lv_at hl 0 rfl) ?_
      refine lv_iconst (v := 5) F.1 F.2.1 dX8_takeAway_54 (by decide) ?_
      refine lv_iadd F.1 F.2.1 dX8_takeAway_55 ?_
      refine w_iald F hP (by omega) mW_s (k := k + 5) (ix_add (X := k) (Y := 5) (Z := k + 5) rfl rfl (by omega)) (by omega) (Nat.le_of_ble_eq_true rfl) (v := (D_sh (61 + 5 * kp) k (upd r 4 (nI (mm - 1)))) (5 + k)) (put_at (k := (5 + k)) (by omega) (by omega)) dX8_takeAway_56 ?_
      refine lv_topi (fun v9 ev9 => ?_)
      refine w_iast F hI hP hS (by omega) mW_s (k := k) rfl (by omega) (Nat.le_of_ble_eq_true rfl) (C1 := mW Y ad (va_up C (o + 2) (pA Y pa2)) o (nI (K_rec k0)) (nI nn) gr 0 (upd (D_sh (61 + 5 * kp) k (upd r 4 (nI (mm - 1)))) k v9) s0) (fun q => congrFun (mW_upds (k := k) (by omega) (by omega)) q) dX8_takeAway_57 (fun H locs hP hS => ?_)
      refine lv_iinc (v := (nI k) + 1) (lv' := [(2, .int ((nI k) + 1)), (0, .ref (ad o)), (1, .int (x))]) F.1 F.2.1 dX8_takeAway_58 hl (k := 0) rfl rfl (by decide) rfl (fun ls hl => ?_)
      refine lv_goto (tgt := 30) F.1 F.2.1 dX8_takeAway_61 (by decide) ?_
      have hR : upd (D_sh (61 + 5 * kp) k (upd r 4 (nI (mm - 1)))) k v9 = D_sh (61 + 5 * kp) (k + 1) (upd r 4 (nI (mm - 1))) := by rw [show v9 = D_sh (61 + 5 * kp) k (upd r 4 (nI (mm - 1))) (5 + k) from ev9]; exact D_sh_s hk1
      exact ih _ (by omega) _ _ _ _ ⟨k + 1, rfl, by omega, by omega, (by rw [nI_succ]; exact lv_sub hl [0, 1, 2] rfl), by rw [hR]⟩ hP hS
  · refine lv_iconst (v := (-1)) F.1 F.2.1 dX8_takeAway_8 (by decide) ?_
    exact w_iret F hr hlocks hP hS dX8_takeAway_9 ⟨fun q => absurd q (by rw [if_neg (fun z => (b_f hq1r c2) (part_1 z hok.1))]; decide), fun _ => ⟨(if_neg (fun z => (b_f hq1r c2) (part_1 z hok.1))).symm, mdl_mk hk0 hn80 hpa hhs hsl hsls hsv hpdd, mfr_0⟩⟩
theorem cm_X8_takeAway (l : Launch) (D : va_G) (Y : Nat → ClassId) (ad : Nat → Nat) (N : Nat) (hI : wI ad N) (C : Nat → va_E) (o : Nat) (hh : o + 6 ≤ N) (f : Nat → Int32) (hs : Nat → Nat → Int32) (kn : Nat) (sl : Nat → Nat → Int32) (sv pd : Nat → Int32) (n : Nat) (hA : mdlA Y ad C o f hs kn sl sv pd n) (x : Int32) (B : Int) (hok : okRow B f) (hBb : B + 60000 ≤ 900000000) (hB0 : 0 ≤ B) : Met l yX8_takeAway (wm yX8_takeAway cX8_takeAway 3 (some .int)) { frames := 2, cells := 0, slots := 0, locals := 43 } (wPc D Y ad N [.ref (ad o), .int (x)] C) (wQi D ad N (fun q C' => ((if 0 ≤ x ∧ x < f 4 ∧ x < 20 then (0 : Int32) else -1) = 0 → q = T_remove x.toNatClampNeg f 4 ∧ mdlA Y ad C' o (T_remove x.toNatClampNeg f) (H_rec f hs kn) (K_rec kn) sl sv pd n ∧ ∀ j, j < o ∨ o + 6 ≤ j → C' j = C j) ∧ (¬ (if 0 ≤ x ∧ x < f 4 ∧ x < 20 then (0 : Int32) else -1) = 0 → q = (if 0 ≤ x ∧ x < f 4 ∧ x < 20 then (0 : Int32) else -1) ∧ mdlA Y ad C' o f hs kn sl sv pd n ∧ ∀ j, j < o ∨ o + 6 ≤ j → C' j = C j))) 0 0 (wA ad N) := by
  obtain ⟨s0, pa, sla, gr, h1, h2, h3, h4, h5, h6, h7, h8, h9, h10⟩ := hA
  have h := c_X8_takeAway l D Y ad N hI C o hh gr f s0 kn h3 hs pa h5 h6 sl sla sv h7 h8 h9 pd n h4 h10 x B hok hBb hB0
  rw [← mW_id h1 h2] at h
  exact h
set_option maxRecDepth 20000 in
set_option maxHeartbeats 4000000 in
/-- hoop -/
theorem c_X8_hoop (l : Launch) (D : va_G) (Y : Nat → ClassId) (ad : Nat → Nat) (N : Nat) (hI : wI ad N) (C : Nat → va_E) (o : Nat) (hh : o + 6 ≤ N) (gr : Int32) (r s0 : Nat → Int32) (k0 : Nat) (hk0 : k0 ≤ 6) (hs : Nat → Nat → Int32) (pa : Nat → Int32) (hpa : C (o + 2) = pA Y pa) (hhs : ∀ i j, i < k0 → j < 161 → pa (161 * i + j) = hs i j) (sl : Nat → Nat → Int32) (sla sv : Nat → Int32) (hsl : C (o + 3) = .inl (Y 0, 322, .inl sla)) (hsls : ∀ k j, k < 2 → j < 161 → ¬ sv k = 0 → sla (161 * k + j) = sl k j) (hsv : C (o + 4) = .inl (Y 1, 2, .inl sv)) (pd : Nat → Int32) (nn : Nat) (hn80 : nn ≤ 80) (hpdd : C (o + 5) = .inl (Y 0, 80, .inl pd)) (x : Int32) : Met l yX8_hoop (wm yX8_hoop cX8_hoop 2 (some .int)) { frames := 1, cells := 0, slots := 0, locals := 22 } (wPc D Y ad N [.ref (ad o), .int (x)] (mW Y ad C o (nI k0) (nI nn) gr 0 r s0)) (wQi D ad N (fun q C' => ((if 1 ≤ x ∧ x ≤ 60 then (0 : Int32) else -2) = 0 → q = r 14 + 1 ∧ mdlA Y ad C' o (T_run x r) (H_rec r hs k0) (K_rec k0) sl sv pd nn ∧ ∀ j, j < o ∨ o + 6 ≤ j → C' j = C j) ∧ (¬ (if 1 ≤ x ∧ x ≤ 60 then (0 : Int32) else -2) = 0 → q = (if 1 ≤ x ∧ x ≤ 60 then (0 : Int32) else -2) ∧ mdlA Y ad C' o r hs k0 sl sv pd nn ∧ ∀ j, j < o ∨ o + 6 ≤ j → C' j = C j))) 0 0 (wA ad N) := by
  refine wMet RX8 rfl (by decide +kernel) (Nat.le_of_ble_eq_true rfl) (lv := [(0, .ref (ad o)), (1, .int (x))]) rfl ?_
  intro p e s m below meth c ls F hr hlocks hP hl
  have hS : va_S (wA ad N) s.heap s.heap [] := va_S.rf
  refine lv_iload_n F.1 F.2.1 dX8_hoop_0 rfl (lv_at hl 1 rfl) ?_
  refine lv_iconst (v := 1) F.1 F.2.1 dX8_hoop_1 (by decide) ?_
  refine lv_bipush (v := 60) F.1 F.2.1 dX8_hoop_2 (by decide) ?_
  refine w_calls F hP hS (c_X8_in l D Y ad N hI _ x 1 60) (cwSm 3 F.2.2.2.2.1 (fun _ h => h) mw_183 mw_181 mw_182 mw_5 rfl rfl ydX8_in ⟨by decide, by decide⟩) rfl hl.1 rfl (Nat.le_of_ble_eq_true rfl) dX8_hoop_4 ⟨Nat.zero_le _, Nat.zero_le _⟩ (fun rq1 Kq1 H locs hq1 hP hS => ?_)
  obtain ⟨hq1w, hq1r⟩ := hq1; rw [hq1w] at hP
  refine lv_if_ne (tgt := 13) F.1 F.2.1 dX8_hoop_7 (by decide) (fun c2 => ?_) (fun c2 => ?_)
  · refine lv_aload_n F.1 F.2.1 dX8_hoop_13 rfl (lv_at hl 0 rfl) ?_
    refine w_callv F hP hS (c_X8_remembers l D Y ad N hI C o hh (nI nn) gr r s0 k0 hk0 hs pa hpa hhs) (cwVm 0 F.2.2.2.2.1 (fun _ h => h) mw_187 mw_184 mw_185 mw_186 mw_5 rfl rfl ydX8_remembers ⟨by decide, by decide⟩) (by omega) mW_o rfl rfl hl.1 rfl (Nat.le_of_ble_eq_true rfl) dX8_hoop_14 ⟨Nat.zero_le _, Nat.zero_le _⟩ (fun Kq H locs hq hP hS => ?_)
    obtain ⟨pa2, hqw, hh2⟩ := hq
    subst hqw
    refine lv_aload_n F.1 F.2.1 dX8_hoop_17 rfl (lv_at hl 0 rfl) ?_
    refine lv_iconst (v := 0) F.1 F.2.1 dX8_hoop_18 (by decide) ?_
    refine lv_iload_n F.1 F.2.1 dX8_hoop_19 rfl (lv_at hl 1 rfl) ?_
    refine w_callv F hP hS (c_X8_begins l D Y ad N hI (va_up C (o + 2) (pA Y pa2)) o hh (nI (K_rec k0)) (nI nn) gr 0 (Or.inl rfl) r s0 x) (cwVm 2 F.2.2.2.2.1 (fun _ h => h) mw_274 mw_271 mw_272 mw_273 mw_5 rfl rfl ydX8_begins ⟨by decide, by decide⟩) (by omega) mW_o rfl rfl hl.1 rfl (Nat.le_of_ble_eq_true rfl) dX8_hoop_20 ⟨Nat.zero_le _, Nat.zero_le _⟩ (fun Kq3 H locs hq3 hP hS => ?_)
    subst hq3
    refine lv_aload_n F.1 F.2.1 dX8_hoop_23 rfl (lv_at hl 0 rfl) ?_
    refine gf_X8_7 F hP (by omega) mW_o (v := .ref (ad (o + 1))) rfl dX8_hoop_24 ?_
    refine lv_bipush (v := 14) F.1 F.2.1 dX8_hoop_27 (by decide) ?_
    refine w_iald F hP (by omega) mW_s (k := 14) rfl (by omega) (Nat.le_of_ble_eq_true rfl) (v := (T_run x r) 14) (put_at (k := 14) (by omega) (by omega)) dX8_hoop_29 ?_
    exact w_iret F hr hlocks hP hS dX8_hoop_30 ⟨fun _ => ⟨rfl, mdl_rec hk0 hn80 hh2 hsl hsls hsv hpdd, mfr_1 (by omega) (by omega)⟩, fun q => absurd (if_pos (b_t hq1r c2)) q⟩
  · refine lv_bipush (v := (-2)) F.1 F.2.1 dX8_hoop_10 (by decide) ?_
    exact w_iret F hr hlocks hP hS dX8_hoop_12 ⟨fun q => absurd q (by rw [if_neg (b_f hq1r c2)]; decide), fun _ => ⟨(if_neg (b_f hq1r c2)).symm, mdl_mk hk0 hn80 hpa hhs hsl hsls hsv hpdd, mfr_0⟩⟩
theorem cm_X8_hoop (l : Launch) (D : va_G) (Y : Nat → ClassId) (ad : Nat → Nat) (N : Nat) (hI : wI ad N) (C : Nat → va_E) (o : Nat) (hh : o + 6 ≤ N) (f : Nat → Int32) (hs : Nat → Nat → Int32) (kn : Nat) (sl : Nat → Nat → Int32) (sv pd : Nat → Int32) (n : Nat) (hA : mdlA Y ad C o f hs kn sl sv pd n) (x : Int32) : Met l yX8_hoop (wm yX8_hoop cX8_hoop 2 (some .int)) { frames := 1, cells := 0, slots := 0, locals := 22 } (wPc D Y ad N [.ref (ad o), .int (x)] C) (wQi D ad N (fun q C' => ((if 1 ≤ x ∧ x ≤ 60 then (0 : Int32) else -2) = 0 → q = f 14 + 1 ∧ mdlA Y ad C' o (T_run x f) (H_rec f hs kn) (K_rec kn) sl sv pd n ∧ ∀ j, j < o ∨ o + 6 ≤ j → C' j = C j) ∧ (¬ (if 1 ≤ x ∧ x ≤ 60 then (0 : Int32) else -2) = 0 → q = (if 1 ≤ x ∧ x ≤ 60 then (0 : Int32) else -2) ∧ mdlA Y ad C' o f hs kn sl sv pd n ∧ ∀ j, j < o ∨ o + 6 ≤ j → C' j = C j))) 0 0 (wA ad N) := by
  obtain ⟨s0, pa, sla, gr, h1, h2, h3, h4, h5, h6, h7, h8, h9, h10⟩ := hA
  have h := c_X8_hoop l D Y ad N hI C o hh gr f s0 kn h3 hs pa h5 h6 sl sla sv h7 h8 h9 pd n h4 h10 x
  rw [← mW_id h1 h2] at h
  exact h
set_option maxRecDepth 20000 in
set_option maxHeartbeats 4000000 in
/-- roll -/
theorem c_X8_roll (l : Launch) (D : va_G) (Y : Nat → ClassId) (ad : Nat → Nat) (N : Nat) (hI : wI ad N) (C : Nat → va_E) (o : Nat) (hh : o + 6 ≤ N) (gr : Int32) (r s0 : Nat → Int32) (k0 : Nat) (hk0 : k0 ≤ 6) (hs : Nat → Nat → Int32) (pa : Nat → Int32) (hpa : C (o + 2) = pA Y pa) (hhs : ∀ i j, i < k0 → j < 161 → pa (161 * i + j) = hs i j) (sl : Nat → Nat → Int32) (sla sv : Nat → Int32) (hsl : C (o + 3) = .inl (Y 0, 322, .inl sla)) (hsls : ∀ k j, k < 2 → j < 161 → ¬ sv k = 0 → sla (161 * k + j) = sl k j) (hsv : C (o + 4) = .inl (Y 1, 2, .inl sv)) (pd : Nat → Int32) (nn : Nat) (hn80 : nn ≤ 80) (hpdd : C (o + 5) = .inl (Y 0, 80, .inl pd)) (x : Int32) (B : Int) (hok : okRow B r) (hBb : B + 60000 ≤ 900000000) (hB0 : 0 ≤ B) : Met l yX8_roll (wm yX8_roll cX8_roll 3 (some .int)) { frames := 4, cells := 0, slots := 0, locals := 94 } (wPc D Y ad N [.ref (ad o), .int (x)] (mW Y ad C o (nI k0) (nI nn) gr 0 r s0)) (wQi D ad N (fun q C' => ((T_re x r) = 0 → q = T_rolled x.toNatClampNeg r 0 11 ∧ mdlA Y ad C' o (T_rolled x.toNatClampNeg r 0) (H_rec r hs k0) (K_rec k0) sl sv pd nn ∧ ∀ j, j < o ∨ o + 6 ≤ j → C' j = C j) ∧ (¬ (T_re x r) = 0 → q = (T_re x r) ∧ mdlA Y ad C' o r hs k0 sl sv pd nn ∧ ∀ j, j < o ∨ o + 6 ≤ j → C' j = C j))) 0 0 (wA ad N) := by
  refine wMet RX8 rfl (by decide +kernel) (Nat.le_of_ble_eq_true rfl) (lv := [(0, .ref (ad o)), (1, .int (x))]) rfl ?_
  intro p e s m below meth c ls F hr hlocks hP hl
  have hS : va_S (wA ad N) s.heap s.heap [] := va_S.rf
  refine lv_aload_n F.1 F.2.1 dX8_roll_0 rfl (lv_at hl 0 rfl) ?_
  refine lv_iload_n F.1 F.2.1 dX8_roll_1 rfl (lv_at hl 1 rfl) ?_
  refine w_calli F hP hS (c_X8_whyNotRoll l D Y ad N hI C o hh (nI k0) (nI nn) gr r s0 x) (cwVm 1 F.2.2.2.2.1 (fun _ h => h) mw_357 mw_354 mw_355 mw_356 mw_5 rfl rfl ydX8_whyNotRoll ⟨by decide, by decide⟩) (by omega) mW_o rfl rfl hl.1 rfl (Nat.le_of_ble_eq_true rfl) dX8_roll_2 ⟨Nat.zero_le _, Nat.zero_le _⟩ (fun rq1 Kq1 H locs hq1 hP hS => ?_)
  obtain ⟨hq1w, hq1r⟩ := hq1; subst hq1w
  subst hq1r
  refine lv_istore_n (lv' := [(2, .int (T_re x r)), (0, .ref (ad o)), (1, .int (x))]) F.1 F.2.1 dX8_roll_5 rfl hl (by decide) rfl (fun ls hl => ?_)
  refine lv_iload_n F.1 F.2.1 dX8_roll_6 rfl (lv_at hl 0 rfl) ?_
  refine lv_if_ge (tgt := 12) F.1 F.2.1 dX8_roll_7 (by decide) (fun c2 => ?_) (fun c2 => ?_)
  · have he0 := re_neg (i_nlt c2)
    obtain ⟨kp, hk1, hk20, ek, hcl, h5, h11⟩ := re_0 he0
    refine lv_aload_n F.1 F.2.1 dX8_roll_12 rfl (lv_at hl 1 rfl) ?_
    refine w_callv F hP hS (c_X8_remembers l D Y ad N hI C o hh (nI nn) gr r s0 k0 hk0 hs pa hpa hhs) (cwVm 0 F.2.2.2.2.1 (fun _ h => h) mw_187 mw_184 mw_185 mw_186 mw_5 rfl rfl ydX8_remembers ⟨by decide, by decide⟩) (by omega) mW_o rfl rfl hl.1 rfl (Nat.le_of_ble_eq_true rfl) dX8_roll_13 ⟨Nat.zero_le _, Nat.zero_le _⟩ (fun Kq H locs hq hP hS => ?_)
    obtain ⟨pa2, hqw, hh2⟩ := hq
    subst hqw
    refine lv_aload_n F.1 F.2.1 dX8_roll_16 rfl (lv_at hl 1 rfl) ?_
    refine lv_iconst (v := 0) F.1 F.2.1 dX8_roll_17 (by decide) ?_
    refine lv_iload_n F.1 F.2.1 dX8_roll_18 rfl (lv_at hl 2 rfl) ?_
    refine w_calli F hP hS (c_X8_rolls l D Y ad N hI (va_up C (o + 2) (pA Y pa2)) o hh (nI (K_rec k0)) (nI nn) gr 0 (Or.inl rfl) r s0 B kp (by omega) (by omega) hok.1 (hok.2.2.1 h5) h11 x ek) (cwVm 2 F.2.2.2.2.1 (fun _ h => h) mw_365 mw_362 mw_363 mw_364 mw_5 rfl rfl ydX8_rolls ⟨by decide, by decide⟩) (by omega) mW_o rfl rfl hl.1 rfl (Nat.le_of_ble_eq_true rfl) dX8_roll_19 ⟨Nat.zero_le _, Nat.zero_le _⟩ (fun rq3 Kq3 H locs hq3 hP hS => ?_)
    obtain ⟨hq3w, hq3r⟩ := hq3; subst hq3w
    subst hq3r
    exact w_iret F hr hlocks hP hS dX8_roll_22 ⟨fun _ => ⟨by rw [hcl, rolled_g kp (g := 0) (g' := gr)], by rw [hcl, rolled_g kp (g := 0) (g' := gr)]; exact mdl_rec hk0 hn80 hh2 hsl hsls hsv hpdd, mfr_1 (by omega) (by omega)⟩, fun q => absurd he0 q⟩
  · refine lv_iload_n F.1 F.2.1 dX8_roll_10 rfl (lv_at hl 0 rfl) ?_
    exact w_iret F hr hlocks hP hS dX8_roll_11 ⟨fun q => absurd q (neg_ne (i_lt c2)), fun _ => ⟨rfl, mdl_mk hk0 hn80 hpa hhs hsl hsls hsv hpdd, mfr_0⟩⟩
theorem cm_X8_roll (l : Launch) (D : va_G) (Y : Nat → ClassId) (ad : Nat → Nat) (N : Nat) (hI : wI ad N) (C : Nat → va_E) (o : Nat) (hh : o + 6 ≤ N) (f : Nat → Int32) (hs : Nat → Nat → Int32) (kn : Nat) (sl : Nat → Nat → Int32) (sv pd : Nat → Int32) (n : Nat) (hA : mdlA Y ad C o f hs kn sl sv pd n) (x : Int32) (B : Int) (hok : okRow B f) (hBb : B + 60000 ≤ 900000000) (hB0 : 0 ≤ B) : Met l yX8_roll (wm yX8_roll cX8_roll 3 (some .int)) { frames := 4, cells := 0, slots := 0, locals := 94 } (wPc D Y ad N [.ref (ad o), .int (x)] C) (wQi D ad N (fun q C' => ((T_re x f) = 0 → q = T_rolled x.toNatClampNeg f 0 11 ∧ mdlA Y ad C' o (T_rolled x.toNatClampNeg f 0) (H_rec f hs kn) (K_rec kn) sl sv pd n ∧ ∀ j, j < o ∨ o + 6 ≤ j → C' j = C j) ∧ (¬ (T_re x f) = 0 → q = (T_re x f) ∧ mdlA Y ad C' o f hs kn sl sv pd n ∧ ∀ j, j < o ∨ o + 6 ≤ j → C' j = C j))) 0 0 (wA ad N) := by
  obtain ⟨s0, pa, sla, gr, h1, h2, h3, h4, h5, h6, h7, h8, h9, h10⟩ := hA
  have h := c_X8_roll l D Y ad N hI C o hh gr f s0 kn h3 hs pa h5 h6 sl sla sv h7 h8 h9 pd n h4 h10 x B hok hBb hB0
  rw [← mW_id h1 h2] at h
  exact h
theorem in01 {x : Int32} : (0 ≤ x ∧ x ≤ 1) ↔ (x = 0 ∨ x = 1) := by
  constructor
  · intro h
    have a := Int32.le_iff_toInt_le.mp h.1
    have b := Int32.le_iff_toInt_le.mp h.2
    have z : (0 : Int32).toInt = 0 := rfl
    have o : (1 : Int32).toInt = 1 := rfl
    by_cases q : x.toInt = 0
    · exact Or.inl (Int32.toInt_inj.mp (by omega))
    · exact Or.inr (Int32.toInt_inj.mp (by omega))
  · intro h
    rcases h with h | h <;> rw [h] <;> decide
set_option maxRecDepth 20000 in
set_option maxHeartbeats 4000000 in
/-- tap -/
theorem c_X8_tap (l : Launch) (D : va_G) (Y : Nat → ClassId) (ad : Nat → Nat) (N : Nat) (hI : wI ad N) (C : Nat → va_E) (o : Nat) (hh : o + 6 ≤ N) (gr : Int32) (r s0 : Nat → Int32) (k0 : Nat) (hk0 : k0 ≤ 6) (hs : Nat → Nat → Int32) (pa : Nat → Int32) (hpa : C (o + 2) = pA Y pa) (hhs : ∀ i j, i < k0 → j < 161 → pa (161 * i + j) = hs i j) (sl : Nat → Nat → Int32) (sla sv : Nat → Int32) (hsl : C (o + 3) = .inl (Y 0, 322, .inl sla)) (hsls : ∀ k j, k < 2 → j < 161 → ¬ sv k = 0 → sla (161 * k + j) = sl k j) (hsv : C (o + 4) = .inl (Y 1, 2, .inl sv)) (pd : Nat → Int32) (nn : Nat) (hn80 : nn ≤ 80) (hpdd : C (o + 5) = .inl (Y 0, 80, .inl pd)) (x : Int32) : Met l yX8_tap (wm yX8_tap cX8_tap 2 (some .int)) { frames := 2, cells := 0, slots := 0, locals := 43 } (wPc D Y ad N [.ref (ad o), .int (x)] (mW Y ad C o (nI k0) (nI nn) gr 0 r s0)) (wQi D ad N (fun q C' => ((T_te x r) = 0 → q = T_tapp x r 8 + 500 ∧ mdlA Y ad C' o (T_tapp x r) (H_rec r hs k0) (K_rec k0) sl sv pd nn ∧ ∀ j, j < o ∨ o + 6 ≤ j → C' j = C j) ∧ (¬ (T_te x r) = 0 → q = (T_te x r) ∧ mdlA Y ad C' o r hs k0 sl sv pd nn ∧ ∀ j, j < o ∨ o + 6 ≤ j → C' j = C j))) 0 0 (wA ad N) := by
  refine wMet RX8 rfl (by decide +kernel) (Nat.le_of_ble_eq_true rfl) (lv := [(0, .ref (ad o)), (1, .int (x))]) rfl ?_
  intro p e s m below meth c ls F hr hlocks hP hl
  have hS : va_S (wA ad N) s.heap s.heap [] := va_S.rf
  refine lv_iload_n F.1 F.2.1 dX8_tap_0 rfl (lv_at hl 1 rfl) ?_
  refine lv_iconst (v := 0) F.1 F.2.1 dX8_tap_1 (by decide) ?_
  refine lv_iconst (v := 1) F.1 F.2.1 dX8_tap_2 (by decide) ?_
  refine w_calls F hP hS (c_X8_in l D Y ad N hI _ x 0 1) (cwSm 3 F.2.2.2.2.1 (fun _ h => h) mw_183 mw_181 mw_182 mw_5 rfl rfl ydX8_in ⟨by decide, by decide⟩) rfl hl.1 rfl (Nat.le_of_ble_eq_true rfl) dX8_tap_3 ⟨Nat.zero_le _, Nat.zero_le _⟩ (fun rq1 Kq1 H locs hq1 hP hS => ?_)
  obtain ⟨hq1w, hq1r⟩ := hq1; rw [hq1w] at hP
  refine lv_if_ne (tgt := 12) F.1 F.2.1 dX8_tap_6 (by decide) (fun c2 => ?_) (fun c2 => ?_)
  · refine lv_aload_n F.1 F.2.1 dX8_tap_12 rfl (lv_at hl 0 rfl) ?_
    refine w_calli F hP hS (c_X8_isRolling l D Y ad N hI C o hh (nI k0) (nI nn) gr r s0) (cwVm 0 F.2.2.2.2.1 (fun _ h => h) mw_361 mw_358 mw_359 mw_360 mw_5 rfl rfl ydX8_isRolling ⟨by decide, by decide⟩) (by omega) mW_o rfl rfl hl.1 rfl (Nat.le_of_ble_eq_true rfl) dX8_tap_13 ⟨Nat.zero_le _, Nat.zero_le _⟩ (fun rq3 Kq3 H locs hq3 hP hS => ?_)
    obtain ⟨hq3w, hq3r⟩ := hq3; subst hq3w
    refine lv_if_ne (tgt := 22) F.1 F.2.1 dX8_tap_16 (by decide) (fun c4 => ?_) (fun c4 => ?_)
    · refine lv_aload_n F.1 F.2.1 dX8_tap_22 rfl (lv_at hl 0 rfl) ?_
      refine w_callv F hP hS (c_X8_remembers l D Y ad N hI C o hh (nI nn) gr r s0 k0 hk0 hs pa hpa hhs) (cwVm 0 F.2.2.2.2.1 (fun _ h => h) mw_187 mw_184 mw_185 mw_186 mw_5 rfl rfl ydX8_remembers ⟨by decide, by decide⟩) (by omega) mW_o rfl rfl hl.1 rfl (Nat.le_of_ble_eq_true rfl) dX8_tap_23 ⟨Nat.zero_le _, Nat.zero_le _⟩ (fun Kq H locs hq hP hS => ?_)
      obtain ⟨pa2, hqw, hh2⟩ := hq
      subst hqw
      refine lv_aload_n F.1 F.2.1 dX8_tap_26 rfl (lv_at hl 0 rfl) ?_
      refine lv_iconst (v := 0) F.1 F.2.1 dX8_tap_27 (by decide) ?_
      refine lv_iload_n F.1 F.2.1 dX8_tap_28 rfl (lv_at hl 1 rfl) ?_
      refine w_callv F hP hS (c_X8_taps l D Y ad N hI (va_up C (o + 2) (pA Y pa2)) o hh (nI (K_rec k0)) (nI nn) gr 0 (Or.inl rfl) r s0 x) (cwVm 2 F.2.2.2.2.1 (fun _ h => h) mw_417 mw_414 mw_415 mw_416 mw_5 rfl rfl ydX8_taps ⟨by decide, by decide⟩) (by omega) mW_o rfl rfl hl.1 rfl (Nat.le_of_ble_eq_true rfl) dX8_tap_29 ⟨Nat.zero_le _, Nat.zero_le _⟩ (fun Kq5 H locs hq5 hP hS => ?_)
      subst hq5
      refine lv_aload_n F.1 F.2.1 dX8_tap_32 rfl (lv_at hl 0 rfl) ?_
      refine gf_X8_7 F hP (by omega) mW_o (v := .ref (ad (o + 1))) rfl dX8_tap_33 ?_
      refine lv_bipush (v := 8) F.1 F.2.1 dX8_tap_36 (by decide) ?_
      refine w_iald F hP (by omega) mW_s (k := 8) rfl (by omega) (Nat.le_of_ble_eq_true rfl) (v := (T_tapp x r) 8) (put_at (k := 8) (by omega) (by omega)) dX8_tap_38 ?_
      refine lv_sipush (v := 500) F.1 F.2.1 dX8_tap_39 (by decide) ?_
      refine lv_iadd F.1 F.2.1 dX8_tap_42 ?_
      exact w_iret F hr hlocks hP hS dX8_tap_43 ⟨fun _ => ⟨rfl, mdl_rec hk0 hn80 hh2 hsl hsls hsv hpdd, mfr_1 (by omega) (by omega)⟩, fun q => absurd (show T_te x r = 0 from (if_pos (in01.mp (b_t hq1r c2))).trans (if_pos (b_t hq3r c4))) q⟩
    · refine lv_bipush (v := (-5)) F.1 F.2.1 dX8_tap_19 (by decide) ?_
      exact w_iret F hr hlocks hP hS dX8_tap_21 ⟨fun q => absurd ((show T_te x r = (-5) from (if_pos (in01.mp (b_t hq1r c2))).trans (if_neg (b_f hq3r c4))).symm.trans q) (by decide), fun _ => ⟨(show T_te x r = (-5) from (if_pos (in01.mp (b_t hq1r c2))).trans (if_neg (b_f hq3r c4))).symm, mdl_mk hk0 hn80 hpa hhs hsl hsls hsv hpdd, mfr_0⟩⟩
  · refine lv_bipush (v := (-2)) F.1 F.2.1 dX8_tap_9 (by decide) ?_
    exact w_iret F hr hlocks hP hS dX8_tap_11 ⟨fun q => absurd ((show T_te x r = (-2) from if_neg (fun q => (b_f hq1r c2) (in01.mpr q))).symm.trans q) (by decide), fun _ => ⟨(show T_te x r = (-2) from if_neg (fun q => (b_f hq1r c2) (in01.mpr q))).symm, mdl_mk hk0 hn80 hpa hhs hsl hsls hsv hpdd, mfr_0⟩⟩
theorem cm_X8_tap (l : Launch) (D : va_G) (Y : Nat → ClassId) (ad : Nat → Nat) (N : Nat) (hI : wI ad N) (C : Nat → va_E) (o : Nat) (hh : o + 6 ≤ N) (f : Nat → Int32) (hs : Nat → Nat → Int32) (kn : Nat) (sl : Nat → Nat → Int32) (sv pd : Nat → Int32) (n : Nat) (hA : mdlA Y ad C o f hs kn sl sv pd n) (x : Int32) : Met l yX8_tap (wm yX8_tap cX8_tap 2 (some .int)) { frames := 2, cells := 0, slots := 0, locals := 43 } (wPc D Y ad N [.ref (ad o), .int (x)] C) (wQi D ad N (fun q C' => ((T_te x f) = 0 → q = T_tapp x f 8 + 500 ∧ mdlA Y ad C' o (T_tapp x f) (H_rec f hs kn) (K_rec kn) sl sv pd n ∧ ∀ j, j < o ∨ o + 6 ≤ j → C' j = C j) ∧ (¬ (T_te x f) = 0 → q = (T_te x f) ∧ mdlA Y ad C' o f hs kn sl sv pd n ∧ ∀ j, j < o ∨ o + 6 ≤ j → C' j = C j))) 0 0 (wA ad N) := by
  obtain ⟨s0, pa, sla, gr, h1, h2, h3, h4, h5, h6, h7, h8, h9, h10⟩ := hA
  have h := c_X8_tap l D Y ad N hI C o hh gr f s0 kn h3 hs pa h5 h6 sl sla sv h7 h8 h9 pd n h4 h10 x
  rw [← mW_id h1 h2] at h
  exact h
set_option maxRecDepth 20000 in
set_option maxHeartbeats 4000000 in
/-- push -/
theorem c_X8_push (l : Launch) (D : va_G) (Y : Nat → ClassId) (ad : Nat → Nat) (N : Nat) (hI : wI ad N) (C : Nat → va_E) (o : Nat) (hh : o + 6 ≤ N) (gr : Int32) (r s0 : Nat → Int32) (k0 : Nat) (hk0 : k0 ≤ 6) (hs : Nat → Nat → Int32) (pa : Nat → Int32) (hpa : C (o + 2) = pA Y pa) (hhs : ∀ i j, i < k0 → j < 161 → pa (161 * i + j) = hs i j) (sl : Nat → Nat → Int32) (sla sv : Nat → Int32) (hsl : C (o + 3) = .inl (Y 0, 322, .inl sla)) (hsls : ∀ k j, k < 2 → j < 161 → ¬ sv k = 0 → sla (161 * k + j) = sl k j) (hsv : C (o + 4) = .inl (Y 1, 2, .inl sv)) (pd : Nat → Int32) (nn : Nat) (hn80 : nn ≤ 80) (hpdd : C (o + 5) = .inl (Y 0, 80, .inl pd)) : Met l yX8_push (wm yX8_push cX8_push 1 (some .int)) { frames := 2, cells := 0, slots := 0, locals := 41 } (wPc D Y ad N [.ref (ad o)] (mW Y ad C o (nI k0) (nI nn) gr 0 r s0)) (wQi D ad N (fun q C' => ((T_pu r) = 0 → q = T_push r 7 ∧ mdlA Y ad C' o (T_push r) (H_rec r hs k0) (K_rec k0) sl sv pd nn ∧ ∀ j, j < o ∨ o + 6 ≤ j → C' j = C j) ∧ (¬ (T_pu r) = 0 → q = (T_pu r) ∧ mdlA Y ad C' o r hs k0 sl sv pd nn ∧ ∀ j, j < o ∨ o + 6 ≤ j → C' j = C j))) 0 0 (wA ad N) := by
  refine wMet RX8 rfl (by decide +kernel) (Nat.le_of_ble_eq_true rfl) (lv := [(0, .ref (ad o))]) rfl ?_
  intro p e s m below meth c ls F hr hlocks hP hl
  have hS : va_S (wA ad N) s.heap s.heap [] := va_S.rf
  refine lv_aload_n F.1 F.2.1 dX8_push_0 rfl (lv_at hl 0 rfl) ?_
  refine w_calli F hP hS (c_X8_isRolling l D Y ad N hI C o hh (nI k0) (nI nn) gr r s0) (cwVm 0 F.2.2.2.2.1 (fun _ h => h) mw_361 mw_358 mw_359 mw_360 mw_5 rfl rfl ydX8_isRolling ⟨by decide, by decide⟩) (by omega) mW_o rfl rfl hl.1 rfl (Nat.le_of_ble_eq_true rfl) dX8_push_1 ⟨Nat.zero_le _, Nat.zero_le _⟩ (fun rq1 Kq1 H locs hq1 hP hS => ?_)
  obtain ⟨hq1w, hq1r⟩ := hq1; subst hq1w
  refine lv_if_ne (tgt := 10) F.1 F.2.1 dX8_push_4 (by decide) (fun c2 => ?_) (fun c2 => ?_)
  · refine lv_aload_n F.1 F.2.1 dX8_push_10 rfl (lv_at hl 0 rfl) ?_
    refine w_callv F hP hS (c_X8_remembers l D Y ad N hI C o hh (nI nn) gr r s0 k0 hk0 hs pa hpa hhs) (cwVm 0 F.2.2.2.2.1 (fun _ h => h) mw_187 mw_184 mw_185 mw_186 mw_5 rfl rfl ydX8_remembers ⟨by decide, by decide⟩) (by omega) mW_o rfl rfl hl.1 rfl (Nat.le_of_ble_eq_true rfl) dX8_push_11 ⟨Nat.zero_le _, Nat.zero_le _⟩ (fun Kq H locs hq hP hS => ?_)
    obtain ⟨pa2, hqw, hh2⟩ := hq
    subst hqw
    refine lv_aload_n F.1 F.2.1 dX8_push_14 rfl (lv_at hl 0 rfl) ?_
    refine w_calli F hP hS (c_X8_pushes l D Y ad N hI (va_up C (o + 2) (pA Y pa2)) o hh (nI (K_rec k0)) (nI nn) gr r s0) (cwVm 0 F.2.2.2.2.1 (fun _ h => h) mw_441 mw_438 mw_439 mw_440 mw_5 rfl rfl ydX8_pushes ⟨by decide, by decide⟩) (by omega) mW_o rfl rfl hl.1 rfl (Nat.le_of_ble_eq_true rfl) dX8_push_15 ⟨Nat.zero_le _, Nat.zero_le _⟩ (fun rq3 Kq3 H locs hq3 hP hS => ?_)
    obtain ⟨hq3w, hq3r⟩ := hq3; subst hq3w
    subst hq3r
    exact w_iret F hr hlocks hP hS dX8_push_18 ⟨fun _ => ⟨rfl, mdl_rec hk0 hn80 hh2 hsl hsls hsv hpdd, mfr_1 (by omega) (by omega)⟩, fun q => absurd (show T_pu r = 0 from if_pos (b_t hq1r c2)) q⟩
  · refine lv_bipush (v := (-5)) F.1 F.2.1 dX8_push_7 (by decide) ?_
    exact w_iret F hr hlocks hP hS dX8_push_9 ⟨fun q => absurd ((show T_pu r = -5 from if_neg (b_f hq1r c2)).symm.trans q) (by decide), fun _ => ⟨(show T_pu r = -5 from if_neg (b_f hq1r c2)).symm, mdl_mk hk0 hn80 hpa hhs hsl hsls hsv hpdd, mfr_0⟩⟩
theorem cm_X8_push (l : Launch) (D : va_G) (Y : Nat → ClassId) (ad : Nat → Nat) (N : Nat) (hI : wI ad N) (C : Nat → va_E) (o : Nat) (hh : o + 6 ≤ N) (f : Nat → Int32) (hs : Nat → Nat → Int32) (kn : Nat) (sl : Nat → Nat → Int32) (sv pd : Nat → Int32) (n : Nat) (hA : mdlA Y ad C o f hs kn sl sv pd n) : Met l yX8_push (wm yX8_push cX8_push 1 (some .int)) { frames := 2, cells := 0, slots := 0, locals := 41 } (wPc D Y ad N [.ref (ad o)] C) (wQi D ad N (fun q C' => ((T_pu f) = 0 → q = T_push f 7 ∧ mdlA Y ad C' o (T_push f) (H_rec f hs kn) (K_rec kn) sl sv pd n ∧ ∀ j, j < o ∨ o + 6 ≤ j → C' j = C j) ∧ (¬ (T_pu f) = 0 → q = (T_pu f) ∧ mdlA Y ad C' o f hs kn sl sv pd n ∧ ∀ j, j < o ∨ o + 6 ≤ j → C' j = C j))) 0 0 (wA ad N) := by
  obtain ⟨s0, pa, sla, gr, h1, h2, h3, h4, h5, h6, h7, h8, h9, h10⟩ := hA
  have h := c_X8_push l D Y ad N hI C o hh gr f s0 kn h3 hs pa h5 h6 sl sla sv h7 h8 h9 pd n h4 h10 
  rw [← mW_id h1 h2] at h
  exact h
