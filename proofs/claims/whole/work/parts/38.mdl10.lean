/-! HoopStairsModel: what if -/
/-- alike but in how often there was a run, a tap -/
def eqv (f f' : Nat → Int32) : Prop := ∀ j, j ≠ 14 → j ≠ 19 → f j = f' j
section EQ
variable {f f' : Nat → Int32} {g : Int32}
theorem eqv_upd {k : Nat} {v : Int32} (h : eqv f f') : eqv (upd f k v) (upd f' k v) := fun j a b => by
  by_cases q : j = k
  · subst q; rw [upd_s, upd_s]
  · rw [upd_n q, upd_n q]; exact h j a b
theorem eqv_drop {x : Int32} (h : eqv f f') : eqv (T_drop x f) (T_drop x f') := by
  unfold T_drop
  rw [h 7 (by decide) (by decide), h 8 (by decide) (by decide), h 9 (by decide) (by decide), h 1 (by decide) (by decide), h 10 (by decide) (by decide)]
  exact eqv_upd (eqv_upd (eqv_upd h))
theorem eqv_land (h : eqv f f') : eqv (T_land1 f) (T_land1 f') := by
  unfold T_land1
  rw [h 7 (by decide) (by decide), h 8 (by decide) (by decide), h 9 (by decide) (by decide), h 2 (by decide) (by decide)]
  exact eqv_upd (eqv_upd (eqv_upd h))
theorem eqv_lands (n : Nat) : ∀ {f f' : Nat → Int32}, eqv f f' → eqv (T_lands n f) (T_lands n f') := by
  induction n with
  | zero => intro f f' h; exact h
  | succ n ih => intro f f' h; exact ih (eqv_land h)
theorem eqv_meet {k : Nat} (h : eqv f f') : eqv (T_meet k f).1 (T_meet k f').1 ∧ (T_meet k f).2 = (T_meet k f').2 := by
  unfold T_meet
  have e1 : kindAt f k = kindAt f' k := h _ (by omega) (by omega)
  have e2 : valAt f k = valAt f' k := h _ (by omega) (by omega)
  rw [e1, e2, h 6 (by decide) (by decide), h 9 (by decide) (by decide)]
  by_cases a : kindAt f' k = 0
  · rw [if_pos a, if_pos a]; exact ⟨eqv_drop h, rfl⟩
  · rw [if_neg a, if_neg a]
    by_cases b : kindAt f' k = 1
    · rw [if_pos b, if_pos b, eqv_lands _ h 7 (by decide) (by decide)]; exact ⟨eqv_lands _ h, rfl⟩
    · rw [if_neg b, if_neg b]; exact ⟨h, rfl⟩
theorem eqv_pass {k : Nat} (h : eqv f f') : eqv (T_pass k f g).1 (T_pass k f' g).1 ∧ (T_pass k f g).2 = (T_pass k f' g).2 := by
  have m := eqv_meet (k := k) h
  unfold T_pass
  rw [m.2, m.1 8 (by decide) (by decide), h 0 (by decide) (by decide), h 10 (by decide) (by decide)]
  by_cases a : (T_meet k f').2 = 0
  · rw [if_pos a, if_pos a]
    by_cases b : f' 0 ≤ iabs ((T_meet k f').1 8)
    · rw [if_pos b, if_pos b]; exact ⟨m.1, rfl⟩
    · rw [if_neg b, if_neg b]; exact ⟨eqv_upd m.1, rfl⟩
  · rw [if_neg a, if_neg a]; exact ⟨m.1, rfl⟩
theorem eqv_step (h : eqv f f') : eqv (T_step f g).1 (T_step f' g).1 ∧ (T_step f g).2 = (T_step f' g).2 := by
  have m := eqv_pass (k := (f' 10).toNatClampNeg) (g := g) h
  unfold T_step
  rw [h 10 (by decide) (by decide), h 4 (by decide) (by decide), m.2]
  by_cases a : f' 10 < f' 4
  · rw [if_pos a, if_pos a]
    by_cases b : (T_pass (f' 10).toNatClampNeg f' g).2.2 = 0
    · rw [if_pos b, if_pos b]
      by_cases c : f' 10 + 1 < f' 4
      · rw [if_pos c, if_pos c]; exact ⟨m.1, rfl⟩
      · rw [if_neg c, if_neg c]; exact ⟨eqv_upd m.1, rfl⟩
    · rw [if_neg b, if_neg b]; exact ⟨eqv_upd m.1, rfl⟩
  · rw [if_neg a, if_neg a]; exact ⟨eqv_upd h, rfl⟩
theorem eqv_roll (n : Nat) : ∀ {f f' : Nat → Int32} {g : Int32}, eqv f f' → eqv (T_roll n f g).1 (T_roll n f' g).1 := by
  induction n with
  | zero => intro f f' g h; exact h
  | succ n ih =>
    intro f f' g h
    have s := eqv_step (g := g) h
    show eqv (if f 11 = 0 then T_roll n (T_step f g).1 (T_step f g).2 else (f, g)).1 (if f' 11 = 0 then T_roll n (T_step f' g).1 (T_step f' g).2 else (f', g)).1
    rw [h 11 (by decide) (by decide), s.2]
    by_cases a : f' 11 = 0
    · rw [if_pos a, if_pos a]; exact ih s.1
    · rw [if_neg a, if_neg a]; exact h
/-- what a run comes to, whatever the counts and the greatest lean before -/
theorem roll_any (n : Nat) {g' : Int32} (h : eqv f f') {j : Nat} (h14 : j ≠ 14) (h19 : j ≠ 19) : (T_roll n f g).1 j = (T_roll n f' g').1 j := by
  rw [roll_g n (g := g) (g' := g')]
  exact eqv_roll n h j h14 h19
theorem step_cont {B : Int} (hs : okS f) (ho : okH B f) (h11 : f 11 = 0) (h : (T_step f g).1 11 = 0) : f 10 + 1 < f 4 ∧ (T_step f g).1 10 = f 10 + 1 := by
  unfold T_step at h ⊢
  by_cases a : f 10 < f 4
  · rw [if_pos a] at h ⊢
    by_cases b : (T_pass (f 10).toNatClampNeg f g).2.2 = 0
    · rw [if_pos b] at h ⊢
      by_cases c : f 10 + 1 < f 4
      · rw [if_pos c]; exact ⟨c, pass_10z b⟩
      · rw [if_neg c] at h; exact absurd ((show upd (T_pass (f 10).toNatClampNeg f g).1 11 4 11 = (4 : Int32) from upd_s).symm.trans h) (by decide)
    · rw [if_neg b] at h; exact absurd ((show upd (T_pass (f 10).toNatClampNeg f g).1 11 (T_pass (f 10).toNatClampNeg f g).2.2 11 = (T_pass (f 10).toNatClampNeg f g).2.2 from upd_s).symm.trans h) b
  · rw [if_neg a] at h; exact absurd ((show upd f 11 4 11 = (4 : Int32) from upd_s).symm.trans h) (by decide)
theorem roll_place (n : Nat) : ∀ {f : Nat → Int32} {g : Int32} {B : Int}, okS f → okH B f → B + 25 * n ≤ 900000000 → f 11 = 0 → (T_roll n f g).1 11 = 0 → (f 10).toInt + n ≤ ((T_roll n f g).1 10).toInt ∧ (1 ≤ n → ((T_roll n f g).1 10).toInt < (f 4).toInt) := by
  induction n with
  | zero => intro f g B hs ho hB h11 h; exact ⟨by show (f 10).toInt + ((0 : Nat) : Int) ≤ (f 10).toInt; omega, fun q => absurd q (by decide)⟩
  | succ n ih =>
    intro f g B hs ho hB h11 h
    have e : T_roll (n + 1) f g = T_roll n (T_step f g).1 (T_step f g).2 := by
      show (if f 11 = 0 then T_roll n (T_step f g).1 (T_step f g).2 else (f, g)) = _
      rw [if_pos h11]
    rw [e] at h ⊢
    have h1 : (T_step f g).1 11 = 0 := by
      by_cases q : (T_step f g).1 11 = 0
      · exact q
      · rw [roll_stop n q] at h; exact h
    have c := step_cont hs ho h11 h1
    have c1 := Int32.lt_iff_toInt_lt.mp c.1
    have o : (1 : Int32).toInt = 1 := rfl
    have q10 := ho.2.2.2.1
    have q4 := hs.2.2.2.2.1
    have s := i_add (a := f 10) (b := 1) (by omega) (by omega)
    have hs1 : okS (T_step f g).1 := okS_of hs (fun p a b c d e => T_step_fr a b c d e)
    have e4 : (T_step f g).1 4 = f 4 := T_step_fr (by decide) (by decide) (by decide) (by decide) (by decide)
    have r := ih (g := (T_step f g).2) hs1 (okH_step (by omega) hs ho h11) (by omega) h1 h
    rw [c.2, s, e4] at r
    refine ⟨by omega, fun _ => ?_⟩
    cases n with
    | zero => show ((T_step f g).1 10).toInt < (f 4).toInt; rw [c.2]; exact c1
    | succ n => exact r.2 (by omega)
theorem roll_20 {B : Int} (hs : okS f) (ho : okH B f) (hB : B + 525 ≤ 900000000) (h11 : f 11 = 0) : ¬ (T_roll 20 f g).1 11 = 0 := fun h => by
  have r := roll_place 20 hs ho (by omega) h11 h
  have q10 := ho.2.2.2.1
  have q4 := hs.2.2.2.2.1
  have := r.2 (by decide)
  omega
theorem roll_snoc (n : Nat) : ∀ {f : Nat → Int32} {g : Int32}, ¬ (T_roll n f g).1 11 = 0 → T_roll (n + 1) f g = T_roll n f g := by
  induction n with
  | zero => intro f g h; exact roll_stop 1 h
  | succ n ih =>
    intro f g h
    by_cases a : f 11 = 0
    · have e : ∀ m, T_roll (m + 1) f g = T_roll m (T_step f g).1 (T_step f g).2 := fun m => by
        show (if f 11 = 0 then T_roll m (T_step f g).1 (T_step f g).2 else (f, g)) = _
        rw [if_pos a]
      rw [e (n + 1), e n]
      rw [e n] at h
      exact ih h
    · rw [roll_stop _ a, roll_stop _ a]
theorem ends_low (hE : endedOk f) {q : Nat} (h : q < 14) : T_ends f q = f q := by
  rcases hE with e | ⟨k, we, h1, h2, h3, h4, h5, h6⟩
  · rw [ends_p e]; exact ep_lo (by omega) (by omega)
  · rw [ends_a h5 h6 h1 h3 h4]; exact ea_lo h3 h4 (by omega)
theorem rolled_lo {B : Int} (n : Nat) (hs : okS f) (ho : okH B f) (hB : B + 25 * n ≤ 900000000) (h11 : f 11 = 0) {q : Nat} (hq : q < 14) : T_rolled n f g q = (T_roll n f g).1 q := by
  have hhow := roll_how n (g := g) hs ho hB (Or.inl h11)
  by_cases c : (T_roll n f g).1 11 = 0
  · rw [rolled_out c]
  · rw [rolled_end c, ends_low (hhow.2.resolve_left c) hq]
theorem rolled_21 {B : Int} (hs : okS f) (ho : okH B f) (hB : B + 525 ≤ 900000000) (h11 : f 11 = 0) : (∀ q, q < 14 → T_rolled 21 f g q = (T_roll 20 f g).1 q) ∧ (T_roll 21 f g).2 = (T_roll 20 f g).2 := by
  have e := roll_snoc 20 (roll_20 (g := g) hs ho hB h11)
  exact ⟨fun q hq => by rw [rolled_lo 21 hs ho (by omega) h11 hq, e], by rw [e]⟩
end EQ
def T_tapps (x : Int32) (f : Nat → Int32) : Nat → Nat → Int32
  | 0 => f
  | k + 1 => T_tapp x (T_tapps x f k)
theorem eqv_tapps (x : Int32) (f : Nat → Int32) (k : Nat) : eqv (T_tapps x f k) (T_taps x f k) := by
  induction k with
  | zero => exact fun _ _ _ => rfl
  | succ k ih =>
    show eqv (T_tapp x (T_tapps x f k)) (T_tap x (T_taps x f k))
    have e : eqv (T_tap x (T_tapps x f k)) (T_tap x (T_taps x f k)) := by
      unfold T_tap
      rw [ih 8 (by decide) (by decide), ih 3 (by decide) (by decide), ih 9 (by decide) (by decide), ih 12 (by decide) (by decide)]
      exact eqv_upd (eqv_upd (eqv_upd ih))
    intro j a b
    unfold T_tapp
    rw [upd_n b]
    exact e j a b
theorem eqv_run (x : Int32) (f : Nat → Int32) : eqv (T_run x f) (T_begin x f) := fun j a b => by unfold T_run; exact upd_n a
theorem okRow_tapps {B : Int} {f : Nat → Int32} (x : Int32) (k : Nat) (hB : B + 30 * k ≤ 900000000) (h : okRow B f) : okRow (B + 30 * k) (T_tapps x f k) := by
  induction k with
  | zero => exact okRow_mono (by omega) h
  | succ k ih => exact okRow_mono (by omega) (okRow_tap x (by omega) (ih (by omega)))
set_option maxRecDepth 20000 in
set_option maxHeartbeats 4000000 in
/-- ifRolled -/
theorem c_X8_ifRolled (l : Launch) (D : va_G) (Y : Nat → ClassId) (ad : Nat → Nat) (N : Nat) (hI : wI ad N) (C : Nat → va_E) (o : Nat) (hh : o + 6 ≤ N) (gr : Int32) (r s0 : Nat → Int32) (k0 : Nat) (hk0 : k0 ≤ 6) (hs : Nat → Nat → Int32) (pa : Nat → Int32) (hpa : C (o + 2) = pA Y pa) (hhs : ∀ i j, i < k0 → j < 161 → pa (161 * i + j) = hs i j) (sl : Nat → Nat → Int32) (sla sv : Nat → Int32) (hsl : C (o + 3) = .inl (Y 0, 322, .inl sla)) (hsls : ∀ k j, k < 2 → j < 161 → ¬ sv k = 0 → sla (161 * k + j) = sl k j) (hsv : C (o + 4) = .inl (Y 1, 2, .inl sv)) (pd : Nat → Int32) (nn : Nat) (hn80 : nn ≤ 80) (hpdd : C (o + 5) = .inl (Y 0, 80, .inl pd)) (x : Int32) (B : Int) (hok : okRow B r) (hBb : B + 60000 ≤ 900000000) (hB0 : 0 ≤ B) : Met l yX8_ifRolled (wm yX8_ifRolled cX8_ifRolled 3 (some .int)) { frames := 4, cells := 0, slots := 0, locals := 94 } (wPc D Y ad N [.ref (ad o), .int (x)] (mW Y ad C o (nI k0) (nI nn) gr 0 r s0)) (wQi D ad N (fun q C' => q = T_ifr r x ∧ mdlA Y ad C' o r hs k0 sl sv pd nn ∧ ∀ j, j < o ∨ o + 6 ≤ j → C' j = C j)) 0 0 (wA ad N) := by
  refine wMet RX8 rfl (by decide +kernel) (Nat.le_of_ble_eq_true rfl) (lv := [(0, .ref (ad o)), (1, .int (x))]) rfl ?_
  intro p e s m below meth c ls F hr hlocks hP hl
  have hS : va_S (wA ad N) s.heap s.heap [] := va_S.rf
  refine lv_iload_n F.1 F.2.1 dX8_ifRolled_0 rfl (lv_at hl 1 rfl) ?_
  refine lv_iconst (v := 0) F.1 F.2.1 dX8_ifRolled_1 (by decide) ?_
  refine lv_iconst (v := 3) F.1 F.2.1 dX8_ifRolled_2 (by decide) ?_
  refine w_calls F hP hS (c_X8_in l D Y ad N hI _ x 0 3) (cwSm 3 F.2.2.2.2.1 (fun _ h => h) mw_183 mw_181 mw_182 mw_5 rfl rfl ydX8_in ⟨by decide, by decide⟩) rfl hl.1 rfl (Nat.le_of_ble_eq_true rfl) dX8_ifRolled_3 ⟨Nat.zero_le _, Nat.zero_le _⟩ (fun rq1 Kq1 H locs hq1 hP hS => ?_)
  obtain ⟨hq1w, hq1r⟩ := hq1; rw [hq1w] at hP
  refine lv_if_ne (tgt := 12) F.1 F.2.1 dX8_ifRolled_6 (by decide) (fun c2 => ?_) (fun c2 => ?_)
  · refine lv_aload_n F.1 F.2.1 dX8_ifRolled_12 rfl (lv_at hl 0 rfl) ?_
    refine w_calli F hP hS (c_X8_isRolling l D Y ad N hI C o hh (nI k0) (nI nn) gr r s0) (cwVm 0 F.2.2.2.2.1 (fun _ h => h) mw_361 mw_358 mw_359 mw_360 mw_5 rfl rfl ydX8_isRolling ⟨by decide, by decide⟩) (by omega) mW_o rfl rfl hl.1 rfl (Nat.le_of_ble_eq_true rfl) dX8_ifRolled_13 ⟨Nat.zero_le _, Nat.zero_le _⟩ (fun rq3 Kq3 H locs hq3 hP hS => ?_)
    obtain ⟨hq3w, hq3r⟩ := hq3; subst hq3w
    refine lv_if_ne (tgt := 22) F.1 F.2.1 dX8_ifRolled_16 (by decide) (fun c4 => ?_) (fun c4 => ?_)
    · have hro : r 5 = 1 ∧ r 11 = 0 := b_t hq3r c4
      have h21 := rolled_21 (g := 0) hok.1 (hok.2.2.1 hro.1) (by omega) hro.2
      refine lv_aload_n F.1 F.2.1 dX8_ifRolled_22 rfl (lv_at hl 0 rfl) ?_
      refine w_callv F hP hS (c_X8_copies l D Y ad N hI C o hh (nI k0) (nI nn) gr r s0) (cwVm 0 F.2.2.2.2.1 (fun _ h => h) mw_520 mw_517 mw_518 mw_519 mw_5 rfl rfl ydX8_copies ⟨by decide, by decide⟩) (by omega) mW_o rfl rfl hl.1 rfl (Nat.le_of_ble_eq_true rfl) dX8_ifRolled_23 ⟨Nat.zero_le _, Nat.zero_le _⟩ (fun Kq5 H locs hq5 hP hS => ?_)
      obtain ⟨s1, hwq5, hs1⟩ := hq5; subst hwq5
      refine lv_aload_n F.1 F.2.1 dX8_ifRolled_26 rfl (lv_at hl 0 rfl) ?_
      refine lv_iconst (v := 0) F.1 F.2.1 dX8_ifRolled_27 (by decide) ?_
      refine pf_X8_52 F hI hP hS (by omega) mW_o (Nat.le_of_ble_eq_true rfl) (C1 := mW Y ad C o (nI k0) (nI nn) 0 161 r s1) (fun q => congrFun mW_updo q) dX8_ifRolled_28 (fun H locs hP hS => ?_)
      refine lv_aload_n F.1 F.2.1 dX8_ifRolled_31 rfl (lv_at hl 0 rfl) ?_
      refine lv_sipush (v := 161) F.1 F.2.1 dX8_ifRolled_32 (by decide) ?_
      refine lv_bipush (v := 21) F.1 F.2.1 dX8_ifRolled_35 (by decide) ?_
      refine w_calli F hP hS (c_X8_rolls l D Y ad N hI C o hh (nI k0) (nI nn) 0 161 (Or.inr rfl) r s1 B 21 (by decide) (by omega) hok.1 (hok.2.2.1 hro.1) hro.2 21 rfl) (cwVm 2 F.2.2.2.2.1 (fun _ h => h) mw_365 mw_362 mw_363 mw_364 mw_5 rfl rfl ydX8_rolls ⟨by decide, by decide⟩) (by omega) mW_o rfl rfl hl.1 rfl (Nat.le_of_ble_eq_true rfl) dX8_ifRolled_37 ⟨Nat.zero_le _, Nat.zero_le _⟩ (fun rq6 Kq6 H locs hq6 hP hS => ?_)
      obtain ⟨hq6w, hq6r⟩ := hq6; subst hq6w
      subst hq6r
      refine lv_istore_n (lv' := [(2, .int (T_rolled 21 r 0 11)), (0, .ref (ad o)), (1, .int (x))]) F.1 F.2.1 dX8_ifRolled_40 rfl hl (by decide) rfl (fun ls hl => ?_)
      refine lv_iload_n F.1 F.2.1 dX8_ifRolled_41 rfl (lv_at hl 2 rfl) ?_
      refine lv_if_ne (tgt := 49) F.1 F.2.1 dX8_ifRolled_42 (by decide) (fun c7 => ?_) (fun c7 => ?_)
      · refine lv_iload_n F.1 F.2.1 dX8_ifRolled_49 rfl (lv_at hl 2 rfl) ?_
        refine lv_iconst (v := 1) F.1 F.2.1 dX8_ifRolled_50 (by decide) ?_
        refine lv_icmp_ne (tgt := 65) F.1 F.2.1 dX8_ifRolled_51 (by decide) (fun c8 => ?_) (fun c8 => ?_)
        · refine lv_iload_n F.1 F.2.1 dX8_ifRolled_65 rfl (lv_at hl 2 rfl) ?_
          refine lv_iconst (v := 2) F.1 F.2.1 dX8_ifRolled_66 (by decide) ?_
          refine lv_icmp_ne (tgt := 81) F.1 F.2.1 dX8_ifRolled_67 (by decide) (fun c9 => ?_) (fun c9 => ?_)
          · refine lv_aload_n F.1 F.2.1 dX8_ifRolled_81 rfl (lv_at hl 1 rfl) ?_
            refine gf_X8_52 F hP (by omega) mW_o (v := .int ((T_roll 21 r 0).2)) rfl dX8_ifRolled_82 ?_
            exact w_iret F hr hlocks hP hS dX8_ifRolled_85 ⟨by unfold T_ifr; rw [if_pos (b_t hq1r c2), if_pos hro]; simp only [if_neg c7, if_neg c8, if_neg c9]; exact h21.2, (by rw [mW_back hs1]; exact mdl_mk hk0 hn80 hpa hhs hsl hsls hsv hpdd), mfr_0⟩
          · refine lv_aload_n F.1 F.2.1 dX8_ifRolled_70 rfl (lv_at hl 1 rfl) ?_
            refine gf_X8_7 F hP (by omega) mW_o (v := .ref (ad (o + 1))) rfl dX8_ifRolled_71 ?_
            refine lv_sipush (v := 168) F.1 F.2.1 dX8_ifRolled_74 (by decide) ?_
            refine w_iald F hP (by omega) mW_s (k := 168) rfl (by omega) (Nat.le_of_ble_eq_true rfl) (v := (T_rolled 21 r 0) 7) (put_at (k := 7) (by omega) (by omega)) dX8_ifRolled_77 ?_
            refine lv_goto (tgt := 85) F.1 F.2.1 dX8_ifRolled_78 (by decide) ?_
            exact w_iret F hr hlocks hP hS dX8_ifRolled_85 ⟨by unfold T_ifr; rw [if_pos (b_t hq1r c2), if_pos hro]; simp only [if_neg c7, if_neg c8, if_pos c9]; exact h21.1 _ (by decide), (by rw [mW_back hs1]; exact mdl_mk hk0 hn80 hpa hhs hsl hsls hsv hpdd), mfr_0⟩
        · refine lv_aload_n F.1 F.2.1 dX8_ifRolled_54 rfl (lv_at hl 1 rfl) ?_
          refine gf_X8_7 F hP (by omega) mW_o (v := .ref (ad (o + 1))) rfl dX8_ifRolled_55 ?_
          refine lv_sipush (v := 171) F.1 F.2.1 dX8_ifRolled_58 (by decide) ?_
          refine w_iald F hP (by omega) mW_s (k := 171) rfl (by omega) (Nat.le_of_ble_eq_true rfl) (v := (T_rolled 21 r 0) 10) (put_at (k := 10) (by omega) (by omega)) dX8_ifRolled_61 ?_
          refine lv_goto (tgt := 85) F.1 F.2.1 dX8_ifRolled_62 (by decide) ?_
          exact w_iret F hr hlocks hP hS dX8_ifRolled_85 ⟨by unfold T_ifr; rw [if_pos (b_t hq1r c2), if_pos hro]; simp only [if_neg c7, if_pos c8]; exact h21.1 _ (by decide), (by rw [mW_back hs1]; exact mdl_mk hk0 hn80 hpa hhs hsl hsls hsv hpdd), mfr_0⟩
      · refine lv_iload_n F.1 F.2.1 dX8_ifRolled_45 rfl (lv_at hl 0 rfl) ?_
        refine lv_goto (tgt := 85) F.1 F.2.1 dX8_ifRolled_46 (by decide) ?_
        exact w_iret F hr hlocks hP hS dX8_ifRolled_85 ⟨by unfold T_ifr; rw [if_pos (b_t hq1r c2), if_pos hro]; simp only [if_pos c7]; exact h21.1 _ (by decide), (by rw [mW_back hs1]; exact mdl_mk hk0 hn80 hpa hhs hsl hsls hsv hpdd), mfr_0⟩
    · refine lv_bipush (v := (-5)) F.1 F.2.1 dX8_ifRolled_19 (by decide) ?_
      exact w_iret F hr hlocks hP hS dX8_ifRolled_21 ⟨by unfold T_ifr; rw [if_pos (b_t hq1r c2), if_neg (b_f hq3r c4)], mdl_mk hk0 hn80 hpa hhs hsl hsls hsv hpdd, mfr_0⟩
  · refine lv_bipush (v := (-2)) F.1 F.2.1 dX8_ifRolled_9 (by decide) ?_
    exact w_iret F hr hlocks hP hS dX8_ifRolled_11 ⟨by unfold T_ifr; rw [if_neg (b_f hq1r c2)], mdl_mk hk0 hn80 hpa hhs hsl hsls hsv hpdd, mfr_0⟩
theorem cm_X8_ifRolled (l : Launch) (D : va_G) (Y : Nat → ClassId) (ad : Nat → Nat) (N : Nat) (hI : wI ad N) (C : Nat → va_E) (o : Nat) (hh : o + 6 ≤ N) (f : Nat → Int32) (hs : Nat → Nat → Int32) (kn : Nat) (sl : Nat → Nat → Int32) (sv pd : Nat → Int32) (n : Nat) (hA : mdlA Y ad C o f hs kn sl sv pd n) (x : Int32) (B : Int) (hok : okRow B f) (hBb : B + 60000 ≤ 900000000) (hB0 : 0 ≤ B) : Met l yX8_ifRolled (wm yX8_ifRolled cX8_ifRolled 3 (some .int)) { frames := 4, cells := 0, slots := 0, locals := 94 } (wPc D Y ad N [.ref (ad o), .int (x)] C) (wQi D ad N (fun q C' => q = T_ifr f x ∧ mdlA Y ad C' o f hs kn sl sv pd n ∧ ∀ j, j < o ∨ o + 6 ≤ j → C' j = C j)) 0 0 (wA ad N) := by
  obtain ⟨s0, pa, sla, gr, h1, h2, h3, h4, h5, h6, h7, h8, h9, h10⟩ := hA
  have h := c_X8_ifRolled l D Y ad N hI C o hh gr f s0 kn h3 hs pa h5 h6 sl sla sv h7 h8 h9 pd n h4 h10 x B hok hBb hB0
  rw [← mW_id h1 h2] at h
  exact h
set_option maxRecDepth 20000 in
set_option maxHeartbeats 4000000 in
/-- widest -/
theorem c_X8_widest (l : Launch) (D : va_G) (Y : Nat → ClassId) (ad : Nat → Nat) (N : Nat) (hI : wI ad N) (C : Nat → va_E) (o : Nat) (hh : o + 6 ≤ N) (gr : Int32) (r s0 : Nat → Int32) (k0 : Nat) (hk0 : k0 ≤ 6) (hs : Nat → Nat → Int32) (pa : Nat → Int32) (hpa : C (o + 2) = pA Y pa) (hhs : ∀ i j, i < k0 → j < 161 → pa (161 * i + j) = hs i j) (sl : Nat → Nat → Int32) (sla sv : Nat → Int32) (hsl : C (o + 3) = .inl (Y 0, 322, .inl sla)) (hsls : ∀ k j, k < 2 → j < 161 → ¬ sv k = 0 → sla (161 * k + j) = sl k j) (hsv : C (o + 4) = .inl (Y 1, 2, .inl sv)) (pd : Nat → Int32) (nn : Nat) (hn80 : nn ≤ 80) (hpdd : C (o + 5) = .inl (Y 0, 80, .inl pd)) (B : Int) (hok : okRow B r) (hBb : B + 60000 ≤ 900000000) (hB0 : 0 ≤ B) : Met l yX8_widest (wm yX8_widest cX8_widest 2 (some .int)) { frames := 4, cells := 0, slots := 0, locals := 94 } (wPc D Y ad N [.ref (ad o)] (mW Y ad C o (nI k0) (nI nn) gr 0 r s0)) (wQi D ad N (fun q C' => q = T_wide r 60 ∧ mdlA Y ad C' o r hs k0 sl sv pd nn ∧ ∀ j, j < o ∨ o + 6 ≤ j → C' j = C j)) 0 0 (wA ad N) := by
  refine wMet RX8 rfl (by decide +kernel) (Nat.le_of_ble_eq_true rfl) (lv := [(0, .ref (ad o))]) rfl ?_
  intro p e s m below meth c ls F hr hlocks hP hl
  have hS : va_S (wA ad N) s.heap s.heap [] := va_S.rf
  refine lv_bipush (v := 60) F.1 F.2.1 dX8_widest_0 (by decide) ?_
  refine lv_istore_n (lv' := [(1, .int (60)), (0, .ref (ad o))]) F.1 F.2.1 dX8_widest_2 rfl hl (by decide) rfl (fun ls hl => ?_)
  refine w_loop (Inv := fun j ls C' => ∃ (k : Nat) (s0 : Nat → Int32) (gr : Int32), j = k ∧ k ≤ 60 ∧ lv_has ls 2 [(1, .int (nI k)), (0, .ref (ad o))] ∧ C' = mW Y ad C o (nI k0) (nI nn) gr 0 r s0 ∧ T_wide r k = T_wide r 60) ?_ 60 ⟨60, s0, gr, rfl, by decide, lv_sub hl [0, 1] rfl, rfl, rfl⟩ hP hS
  clear hP hS
  intro j ih H locs ls K0 hInv hP hS
  obtain ⟨k, s0, gr, hj, hk60, hl, rfl, hW⟩ := hInv
  refine lv_iload_n F.1 F.2.1 dX8_widest_3 rfl (lv_at hl 0 rfl) ?_
  refine lv_if_le (tgt := 40) F.1 F.2.1 dX8_widest_4 (by decide) (fun c1 => ?_) (fun c1 => ?_)
  · refine lv_bipush (v := (-6)) F.1 F.2.1 dX8_widest_40 (by decide) ?_
    exact w_iret F hr hlocks hP hS dX8_widest_42 ⟨by rw [← hW, show k = 0 from Nat.eq_zero_of_not_pos (fun q => nI_ge (a := 0) (b := k) q (by omega) c1)]; rfl, mdl_mk hk0 hn80 hpa hhs hsl hsls hsv hpdd, mfr_0⟩
  · obtain ⟨k, rfl⟩ : ∃ k1, k = k1 + 1 := ⟨k - 1, by have : 1 ≤ k := Nat.pos_of_ne_zero (fun q => c1 (by rw [q]; decide)); omega⟩
    have hW2 : (if (T_roll 20 (T_begin (nI (k + 1)) r) 0).1 11 = 4 then nI (k + 1) else T_wide r k) = T_wide r 60 := hW
    have okr := okRow_run (nI (k + 1)) hB0 hok
    have h21 : T_rolled 21 (T_run (nI (k + 1)) r) gr 11 = (T_roll 20 (T_begin (nI (k + 1)) r) 0).1 11 := ((rolled_21 (g := gr) okr.1 (okr.2.2.1 rfl) (by omega) rfl).1 11 (by decide)).trans (roll_any 20 (eqv_run _ _) (by decide) (by decide))
    refine lv_aload_n F.1 F.2.1 dX8_widest_7 rfl (lv_at hl 1 rfl) ?_
    refine w_callv F hP hS (c_X8_copies l D Y ad N hI C o hh (nI k0) (nI nn) gr r s0) (cwVm 0 F.2.2.2.2.1 (fun _ h => h) mw_520 mw_517 mw_518 mw_519 mw_5 rfl rfl ydX8_copies ⟨by decide, by decide⟩) (by omega) mW_o rfl rfl hl.1 rfl (Nat.le_of_ble_eq_true rfl) dX8_widest_8 ⟨Nat.zero_le _, Nat.zero_le _⟩ (fun Kq2 H locs hq2 hP hS => ?_)
    obtain ⟨s1, hwq2, hs1⟩ := hq2; subst hwq2
    refine lv_aload_n F.1 F.2.1 dX8_widest_11 rfl (lv_at hl 1 rfl) ?_
    refine lv_sipush (v := 161) F.1 F.2.1 dX8_widest_12 (by decide) ?_
    refine lv_iload_n F.1 F.2.1 dX8_widest_15 rfl (lv_at hl 0 rfl) ?_
    refine w_callv F hP hS (c_X8_begins l D Y ad N hI C o hh (nI k0) (nI nn) gr 161 (Or.inr rfl) r s1 (nI (k + 1))) (cwVm 2 F.2.2.2.2.1 (fun _ h => h) mw_274 mw_271 mw_272 mw_273 mw_5 rfl rfl ydX8_begins ⟨by decide, by decide⟩) (by omega) mW_o rfl rfl hl.1 rfl (Nat.le_of_ble_eq_true rfl) dX8_widest_16 ⟨Nat.zero_le _, Nat.zero_le _⟩ (fun Kq3 H locs hq3 hP hS => ?_)
    subst hq3
    refine lv_aload_n F.1 F.2.1 dX8_widest_19 rfl (lv_at hl 1 rfl) ?_
    refine lv_sipush (v := 161) F.1 F.2.1 dX8_widest_20 (by decide) ?_
    refine lv_bipush (v := 21) F.1 F.2.1 dX8_widest_23 (by decide) ?_
    refine w_calli F hP hS (c_X8_rolls l D Y ad N hI C o hh (nI k0) (nI nn) gr 161 (Or.inr rfl) (T_run (nI (k + 1)) r) s1 B 21 (by decide) (by omega) okr.1 (okr.2.2.1 rfl) rfl 21 rfl) (cwVm 2 F.2.2.2.2.1 (fun _ h => h) mw_365 mw_362 mw_363 mw_364 mw_5 rfl rfl ydX8_rolls ⟨by decide, by decide⟩) (by omega) mW_o rfl rfl hl.1 rfl (Nat.le_of_ble_eq_true rfl) dX8_widest_25 ⟨Nat.zero_le _, Nat.zero_le _⟩ (fun rq4 Kq4 H locs hq4 hP hS => ?_)
    obtain ⟨hq4w, hq4r⟩ := hq4; subst hq4w
    subst hq4r
    refine lv_iconst (v := 4) F.1 F.2.1 dX8_widest_28 (by decide) ?_
    refine lv_icmp_ne (tgt := 34) F.1 F.2.1 dX8_widest_29 (by decide) (fun c5 => ?_) (fun c5 => ?_)
    · refine lv_iinc (v := (nI (k + 1)) + (-1)) (lv' := [(1, .int ((nI (k + 1)) + (-1))), (0, .ref (ad o))]) F.1 F.2.1 dX8_widest_34 hl (k := 0) rfl rfl (by decide) rfl (fun ls hl => ?_)
      refine lv_goto (tgt := 3) F.1 F.2.1 dX8_widest_37 (by decide) ?_
      rw [if_neg (by rw [← h21]; exact c5)] at hW2
      exact ih _ (by omega) _ _ _ _ ⟨k, _, _, rfl, by omega, (by rw [← nI_dec k]; exact lv_sub hl [0, 1] rfl), mW_back hs1, hW2⟩ hP hS
    · refine lv_iload_n F.1 F.2.1 dX8_widest_32 rfl (lv_at hl 0 rfl) ?_
      exact w_iret F hr hlocks hP hS dX8_widest_33 ⟨by rw [if_pos (by rw [← h21]; exact c5)] at hW2; exact hW2, (by rw [mW_back hs1]; exact mdl_mk hk0 hn80 hpa hhs hsl hsls hsv hpdd), mfr_0⟩
theorem cm_X8_widest (l : Launch) (D : va_G) (Y : Nat → ClassId) (ad : Nat → Nat) (N : Nat) (hI : wI ad N) (C : Nat → va_E) (o : Nat) (hh : o + 6 ≤ N) (f : Nat → Int32) (hs : Nat → Nat → Int32) (kn : Nat) (sl : Nat → Nat → Int32) (sv pd : Nat → Int32) (n : Nat) (hA : mdlA Y ad C o f hs kn sl sv pd n) (B : Int) (hok : okRow B f) (hBb : B + 60000 ≤ 900000000) (hB0 : 0 ≤ B) : Met l yX8_widest (wm yX8_widest cX8_widest 2 (some .int)) { frames := 4, cells := 0, slots := 0, locals := 94 } (wPc D Y ad N [.ref (ad o)] C) (wQi D ad N (fun q C' => q = T_wide f 60 ∧ mdlA Y ad C' o f hs kn sl sv pd n ∧ ∀ j, j < o ∨ o + 6 ≤ j → C' j = C j)) 0 0 (wA ad N) := by
  obtain ⟨s0, pa, sla, gr, h1, h2, h3, h4, h5, h6, h7, h8, h9, h10⟩ := hA
  have h := c_X8_widest l D Y ad N hI C o hh gr f s0 kn h3 hs pa h5 h6 sl sla sv h7 h8 h9 pd n h4 h10 B hok hBb hB0
  rw [← mW_id h1 h2] at h
  exact h
theorem tr_h {y : Int32} {f : Nat → Int32} (h : 0 ≤ y ∧ y ≤ f 4 - 1) (hs : okS f) : 0 ≤ y ∧ y < f 4 ∧ y < 20 := by
  obtain ⟨kp, mm, ek, hkm, hm20, h4, hcx, hf0⟩ := part_0 h hs
  exact hf0
theorem tr_1 {z : Int32} {f : Nat → Int32} {kz : Nat} (hkz : kz ≤ 2) (ez : z = nI kz) (h : z = 1) : T_about f (z + 1) = f (7 + kz) + 500 := by
  have e : kz = 1 := (nI_eq (b := 1) (by omega) (by decide)).mp (ez.symm.trans h)
  subst e; subst ez; rfl
theorem tr_0 {z : Int32} {f : Nat → Int32} {kz : Nat} (hkz : kz ≤ 2) (ez : z = nI kz) (h : ¬ z = 1) : T_about f (z + 1) = f (7 + kz) + 0 := by
  rw [Int32.add_zero]
  have e : kz = 0 ∨ kz = 2 := by
    have : kz ≠ 1 := fun q => h (by rw [ez, q]; rfl)
    omega
  rcases e with e | e <;> subst e <;> subst ez <;> rfl
set_option maxRecDepth 20000 in
set_option maxHeartbeats 4000000 in
/-- traced -/
theorem c_X8_traced (l : Launch) (D : va_G) (Y : Nat → ClassId) (ad : Nat → Nat) (N : Nat) (hI : wI ad N) (C : Nat → va_E) (o : Nat) (hh : o + 6 ≤ N) (gr : Int32) (r s0 : Nat → Int32) (k0 : Nat) (hk0 : k0 ≤ 6) (hs : Nat → Nat → Int32) (pa : Nat → Int32) (hpa : C (o + 2) = pA Y pa) (hhs : ∀ i j, i < k0 → j < 161 → pa (161 * i + j) = hs i j) (sl : Nat → Nat → Int32) (sla sv : Nat → Int32) (hsl : C (o + 3) = .inl (Y 0, 322, .inl sla)) (hsls : ∀ k j, k < 2 → j < 161 → ¬ sv k = 0 → sla (161 * k + j) = sl k j) (hsv : C (o + 4) = .inl (Y 1, 2, .inl sv)) (pd : Nat → Int32) (nn : Nat) (hn80 : nn ≤ 80) (hpdd : C (o + 5) = .inl (Y 0, 80, .inl pd)) (x y z : Int32) (B : Int) (hok : okRow B r) (hBb : B + 60000 ≤ 900000000) (hB0 : 0 ≤ B) : Met l yX8_traced (wm yX8_traced cX8_traced 5 (some .int)) { frames := 4, cells := 0, slots := 0, locals := 94 } (wPc D Y ad N [.ref (ad o), .int (x), .int (y), .int (z)] (mW Y ad C o (nI k0) (nI nn) gr 0 r s0)) (wQi D ad N (fun q C' => q = T_trc r x y z ∧ mdlA Y ad C' o r hs k0 sl sv pd nn ∧ ∀ j, j < o ∨ o + 6 ≤ j → C' j = C j)) 0 0 (wA ad N) := by
  refine wMet RX8 rfl (by decide +kernel) (Nat.le_of_ble_eq_true rfl) (lv := [(0, .ref (ad o)), (1, .int (x)), (2, .int (y)), (3, .int (z))]) rfl ?_
  intro p e s m below meth c ls F hr hlocks hP hl
  have hS : va_S (wA ad N) s.heap s.heap [] := va_S.rf
  refine lv_aload_n F.1 F.2.1 dX8_traced_0 rfl (lv_at hl 0 rfl) ?_
  refine lv_iload_n F.1 F.2.1 dX8_traced_1 rfl (lv_at hl 2 rfl) ?_
  refine w_calli F hP hS (c_X8_isPart l D Y ad N hI C o hh (nI k0) (nI nn) gr r s0 y) (cwVm 1 F.2.2.2.2.1 (fun _ h => h) mw_251 mw_248 mw_249 mw_250 mw_5 rfl rfl ydX8_isPart ⟨by decide, by decide⟩) (by omega) mW_o rfl rfl hl.1 rfl (Nat.le_of_ble_eq_true rfl) dX8_traced_2 ⟨Nat.zero_le _, Nat.zero_le _⟩ (fun rq1 Kq1 H locs hq1 hP hS => ?_)
  obtain ⟨hq1w, hq1r⟩ := hq1; subst hq1w
  refine lv_if_ne (tgt := 10) F.1 F.2.1 dX8_traced_5 (by decide) (fun c2 => ?_) (fun c2 => ?_)
  · refine lv_iload_n F.1 F.2.1 dX8_traced_10 rfl (lv_at hl 1 rfl) ?_
    refine lv_iconst (v := 1) F.1 F.2.1 dX8_traced_11 (by decide) ?_
    refine lv_bipush (v := 60) F.1 F.2.1 dX8_traced_12 (by decide) ?_
    refine w_calls F hP hS (c_X8_in l D Y ad N hI _ x 1 60) (cwSm 3 F.2.2.2.2.1 (fun _ h => h) mw_183 mw_181 mw_182 mw_5 rfl rfl ydX8_in ⟨by decide, by decide⟩) rfl hl.1 rfl (Nat.le_of_ble_eq_true rfl) dX8_traced_14 ⟨Nat.zero_le _, Nat.zero_le _⟩ (fun rq3 Kq3 H locs hq3 hP hS => ?_)
    obtain ⟨hq3w, hq3r⟩ := hq3; rw [hq3w] at hP
    refine lv_if_eq (tgt := 29) F.1 F.2.1 dX8_traced_17 (by decide) (fun c4 => ?_) (fun c4 => ?_)
    · refine lv_bipush (v := (-2)) F.1 F.2.1 dX8_traced_29 (by decide) ?_
      exact w_iret F hr hlocks hP hS dX8_traced_31 ⟨by unfold T_trc; rw [if_pos (tr_h (b_t hq1r c2) hok.1), if_neg (fun q => (b_f hq3r c4) q.1)], mdl_mk hk0 hn80 hpa hhs hsl hsls hsv hpdd, mfr_0⟩
    · refine lv_iload_n F.1 F.2.1 dX8_traced_20 rfl (lv_at hl 3 rfl) ?_
      refine lv_iconst (v := 0) F.1 F.2.1 dX8_traced_21 (by decide) ?_
      refine lv_iconst (v := 2) F.1 F.2.1 dX8_traced_22 (by decide) ?_
      refine w_calls F hP hS (c_X8_in l D Y ad N hI _ z 0 2) (cwSm 3 F.2.2.2.2.1 (fun _ h => h) mw_183 mw_181 mw_182 mw_5 rfl rfl ydX8_in ⟨by decide, by decide⟩) rfl hl.1 rfl (Nat.le_of_ble_eq_true rfl) dX8_traced_23 ⟨Nat.zero_le _, Nat.zero_le _⟩ (fun rq5 Kq5 H locs hq5 hP hS => ?_)
      obtain ⟨hq5w, hq5r⟩ := hq5; rw [hq5w] at hP
      refine lv_if_ne (tgt := 32) F.1 F.2.1 dX8_traced_26 (by decide) (fun c6 => ?_) (fun c6 => ?_)
      · obtain ⟨kp, mm, ek, hkm, hm20, h4, hcx, hf0⟩ := part_0 (b_t hq1r c2) hok.1
        obtain ⟨kz, hkz, ez, ecz⟩ := in_x (M := 2) (m := 2) rfl (b_t hq5r c6).1 (b_t hq5r c6).2
        have okr := okRow_run x hB0 hok
        have hlo : ∀ q, q < 14 → T_rolled (kp + 1) (T_run x r) gr q = (T_roll (kp + 1) (T_begin x r) 0).1 q := fun q hq => (rolled_lo (g := gr) (kp + 1) okr.1 (okr.2.2.1 rfl) (by omega) rfl hq).trans (roll_any _ (eqv_run _ _) (by omega) (by omega))
        refine lv_aload_n F.1 F.2.1 dX8_traced_32 rfl (lv_at hl 0 rfl) ?_
        refine w_callv F hP hS (c_X8_copies l D Y ad N hI C o hh (nI k0) (nI nn) gr r s0) (cwVm 0 F.2.2.2.2.1 (fun _ h => h) mw_520 mw_517 mw_518 mw_519 mw_5 rfl rfl ydX8_copies ⟨by decide, by decide⟩) (by omega) mW_o rfl rfl hl.1 rfl (Nat.le_of_ble_eq_true rfl) dX8_traced_33 ⟨Nat.zero_le _, Nat.zero_le _⟩ (fun Kq7 H locs hq7 hP hS => ?_)
        obtain ⟨s1, hwq7, hs1⟩ := hq7; subst hwq7
        refine lv_aload_n F.1 F.2.1 dX8_traced_36 rfl (lv_at hl 0 rfl) ?_
        refine lv_sipush (v := 161) F.1 F.2.1 dX8_traced_37 (by decide) ?_
        refine lv_iload_n F.1 F.2.1 dX8_traced_40 rfl (lv_at hl 1 rfl) ?_
        refine w_callv F hP hS (c_X8_begins l D Y ad N hI C o hh (nI k0) (nI nn) gr 161 (Or.inr rfl) r s1 x) (cwVm 2 F.2.2.2.2.1 (fun _ h => h) mw_274 mw_271 mw_272 mw_273 mw_5 rfl rfl ydX8_begins ⟨by decide, by decide⟩) (by omega) mW_o rfl rfl hl.1 rfl (Nat.le_of_ble_eq_true rfl) dX8_traced_41 ⟨Nat.zero_le _, Nat.zero_le _⟩ (fun Kq8 H locs hq8 hP hS => ?_)
        subst hq8
        refine lv_aload_n F.1 F.2.1 dX8_traced_44 rfl (lv_at hl 0 rfl) ?_
        refine lv_sipush (v := 161) F.1 F.2.1 dX8_traced_45 (by decide) ?_
        refine lv_iload_n F.1 F.2.1 dX8_traced_48 rfl (lv_at hl 2 rfl) ?_
        refine lv_iconst (v := 1) F.1 F.2.1 dX8_traced_49 (by decide) ?_
        refine lv_iadd F.1 F.2.1 dX8_traced_50 ?_
        refine w_calli F hP hS (c_X8_rolls l D Y ad N hI C o hh (nI k0) (nI nn) gr 161 (Or.inr rfl) (T_run x r) s1 B (kp + 1) (by omega) (by omega) okr.1 (okr.2.2.1 rfl) rfl (y + 1) (by rw [ek, nI_succ])) (cwVm 2 F.2.2.2.2.1 (fun _ h => h) mw_365 mw_362 mw_363 mw_364 mw_5 rfl rfl ydX8_rolls ⟨by decide, by decide⟩) (by omega) mW_o rfl rfl hl.1 rfl (Nat.le_of_ble_eq_true rfl) dX8_traced_51 ⟨Nat.zero_le _, Nat.zero_le _⟩ (fun rq9 Kq9 H locs hq9 hP hS => ?_)
        obtain ⟨hq9w, hq9r⟩ := hq9; subst hq9w
        subst hq9r
        refine lv_istore (lv' := [(4, .int (T_rolled (kp + 1) (T_run x r) gr 11)), (0, .ref (ad o)), (1, .int (x)), (2, .int (y)), (3, .int (z))]) F.1 F.2.1 dX8_traced_54 hl (by decide) rfl (fun ls hl => ?_)
        refine lv_iload F.1 F.2.1 dX8_traced_56 (lv_at hl 0 rfl) ?_
        refine lv_if_eq (tgt := 70) F.1 F.2.1 dX8_traced_58 (by decide) (fun c10 => ?_) (fun c10 => ?_)
        · refine lv_aload_n F.1 F.2.1 dX8_traced_70 rfl (lv_at hl 1 rfl) ?_
          refine gf_X8_7 F hP (by omega) mW_o (v := .ref (ad (o + 1))) rfl dX8_traced_71 ?_
          refine lv_sipush (v := 168) F.1 F.2.1 dX8_traced_74 (by decide) ?_
          refine lv_iload_n F.1 F.2.1 dX8_traced_77 rfl (lv_at hl 4 rfl) ?_
          refine lv_iadd F.1 F.2.1 dX8_traced_78 ?_
          refine w_iald F hP (by omega) mW_s (k := 168 + kz) (ix_add (X := 168) (Y := kz) (Z := 168 + kz) rfl ez (by omega)) (by omega) (Nat.le_of_ble_eq_true rfl) (v := (T_rolled (kp + 1) (T_run x r) gr) (7 + kz)) (put_at (k := 7 + kz) (by omega) (by omega)) dX8_traced_79 ?_
          refine lv_iload_n F.1 F.2.1 dX8_traced_80 rfl (lv_at hl 4 rfl) ?_
          refine lv_iconst (v := 1) F.1 F.2.1 dX8_traced_81 (by decide) ?_
          refine lv_icmp_ne (tgt := 91) F.1 F.2.1 dX8_traced_82 (by decide) (fun c11 => ?_) (fun c11 => ?_)
          · refine lv_iconst (v := 0) F.1 F.2.1 dX8_traced_91 (by decide) ?_
            refine lv_iadd F.1 F.2.1 dX8_traced_92 ?_
            exact w_iret F hr hlocks hP hS dX8_traced_93 ⟨by unfold T_trc; rw [if_pos hf0, if_pos ⟨b_t hq3r c4, b_t hq5r c6⟩, hcx, ← hlo 11 (by decide), if_pos (Or.inl c10), hlo _ (by omega)]; exact (tr_0 hkz ez c11).symm, (by rw [mW_back hs1]; exact mdl_mk hk0 hn80 hpa hhs hsl hsls hsv hpdd), mfr_0⟩
          · refine lv_sipush (v := 500) F.1 F.2.1 dX8_traced_85 (by decide) ?_
            refine lv_goto (tgt := 92) F.1 F.2.1 dX8_traced_88 (by decide) ?_
            refine lv_iadd F.1 F.2.1 dX8_traced_92 ?_
            exact w_iret F hr hlocks hP hS dX8_traced_93 ⟨by unfold T_trc; rw [if_pos hf0, if_pos ⟨b_t hq3r c4, b_t hq5r c6⟩, hcx, ← hlo 11 (by decide), if_pos (Or.inl c10), hlo _ (by omega)]; exact (tr_1 hkz ez c11).symm, (by rw [mW_back hs1]; exact mdl_mk hk0 hn80 hpa hhs hsl hsls hsv hpdd), mfr_0⟩
        · refine lv_iload F.1 F.2.1 dX8_traced_61 (lv_at hl 0 rfl) ?_
          refine lv_iconst (v := 4) F.1 F.2.1 dX8_traced_63 (by decide) ?_
          refine lv_icmp_eq (tgt := 70) F.1 F.2.1 dX8_traced_64 (by decide) (fun c12 => ?_) (fun c12 => ?_)
          · refine lv_aload_n F.1 F.2.1 dX8_traced_70 rfl (lv_at hl 1 rfl) ?_
            refine gf_X8_7 F hP (by omega) mW_o (v := .ref (ad (o + 1))) rfl dX8_traced_71 ?_
            refine lv_sipush (v := 168) F.1 F.2.1 dX8_traced_74 (by decide) ?_
            refine lv_iload_n F.1 F.2.1 dX8_traced_77 rfl (lv_at hl 4 rfl) ?_
            refine lv_iadd F.1 F.2.1 dX8_traced_78 ?_
            refine w_iald F hP (by omega) mW_s (k := 168 + kz) (ix_add (X := 168) (Y := kz) (Z := 168 + kz) rfl ez (by omega)) (by omega) (Nat.le_of_ble_eq_true rfl) (v := (T_rolled (kp + 1) (T_run x r) gr) (7 + kz)) (put_at (k := 7 + kz) (by omega) (by omega)) dX8_traced_79 ?_
            refine lv_iload_n F.1 F.2.1 dX8_traced_80 rfl (lv_at hl 4 rfl) ?_
            refine lv_iconst (v := 1) F.1 F.2.1 dX8_traced_81 (by decide) ?_
            refine lv_icmp_ne (tgt := 91) F.1 F.2.1 dX8_traced_82 (by decide) (fun c13 => ?_) (fun c13 => ?_)
            · refine lv_iconst (v := 0) F.1 F.2.1 dX8_traced_91 (by decide) ?_
              refine lv_iadd F.1 F.2.1 dX8_traced_92 ?_
              exact w_iret F hr hlocks hP hS dX8_traced_93 ⟨by unfold T_trc; rw [if_pos hf0, if_pos ⟨b_t hq3r c4, b_t hq5r c6⟩, hcx, ← hlo 11 (by decide), if_pos (Or.inr c12), hlo _ (by omega)]; exact (tr_0 hkz ez c13).symm, (by rw [mW_back hs1]; exact mdl_mk hk0 hn80 hpa hhs hsl hsls hsv hpdd), mfr_0⟩
            · refine lv_sipush (v := 500) F.1 F.2.1 dX8_traced_85 (by decide) ?_
              refine lv_goto (tgt := 92) F.1 F.2.1 dX8_traced_88 (by decide) ?_
              refine lv_iadd F.1 F.2.1 dX8_traced_92 ?_
              exact w_iret F hr hlocks hP hS dX8_traced_93 ⟨by unfold T_trc; rw [if_pos hf0, if_pos ⟨b_t hq3r c4, b_t hq5r c6⟩, hcx, ← hlo 11 (by decide), if_pos (Or.inr c12), hlo _ (by omega)]; exact (tr_1 hkz ez c13).symm, (by rw [mW_back hs1]; exact mdl_mk hk0 hn80 hpa hhs hsl hsls hsv hpdd), mfr_0⟩
          · refine lv_bipush (v := (-6)) F.1 F.2.1 dX8_traced_67 (by decide) ?_
            exact w_iret F hr hlocks hP hS dX8_traced_69 ⟨by unfold T_trc; rw [if_pos hf0, if_pos ⟨b_t hq3r c4, b_t hq5r c6⟩, hcx, ← hlo 11 (by decide), if_neg (fun q => q.elim c10 c12)], (by rw [mW_back hs1]; exact mdl_mk hk0 hn80 hpa hhs hsl hsls hsv hpdd), mfr_0⟩
      · refine lv_bipush (v := (-2)) F.1 F.2.1 dX8_traced_29 (by decide) ?_
        exact w_iret F hr hlocks hP hS dX8_traced_31 ⟨by unfold T_trc; rw [if_pos (tr_h (b_t hq1r c2) hok.1), if_neg (fun q => (b_f hq5r c6) q.2)], mdl_mk hk0 hn80 hpa hhs hsl hsls hsv hpdd, mfr_0⟩
  · refine lv_iconst (v := (-1)) F.1 F.2.1 dX8_traced_8 (by decide) ?_
    exact w_iret F hr hlocks hP hS dX8_traced_9 ⟨by unfold T_trc; rw [if_neg (fun q => (b_f hq1r c2) (part_1 q hok.1))], mdl_mk hk0 hn80 hpa hhs hsl hsls hsv hpdd, mfr_0⟩
theorem cm_X8_traced (l : Launch) (D : va_G) (Y : Nat → ClassId) (ad : Nat → Nat) (N : Nat) (hI : wI ad N) (C : Nat → va_E) (o : Nat) (hh : o + 6 ≤ N) (f : Nat → Int32) (hs : Nat → Nat → Int32) (kn : Nat) (sl : Nat → Nat → Int32) (sv pd : Nat → Int32) (n : Nat) (hA : mdlA Y ad C o f hs kn sl sv pd n) (x y z : Int32) (B : Int) (hok : okRow B f) (hBb : B + 60000 ≤ 900000000) (hB0 : 0 ≤ B) : Met l yX8_traced (wm yX8_traced cX8_traced 5 (some .int)) { frames := 4, cells := 0, slots := 0, locals := 94 } (wPc D Y ad N [.ref (ad o), .int (x), .int (y), .int (z)] C) (wQi D ad N (fun q C' => q = T_trc f x y z ∧ mdlA Y ad C' o f hs kn sl sv pd n ∧ ∀ j, j < o ∨ o + 6 ≤ j → C' j = C j)) 0 0 (wA ad N) := by
  obtain ⟨s0, pa, sla, gr, h1, h2, h3, h4, h5, h6, h7, h8, h9, h10⟩ := hA
  have h := c_X8_traced l D Y ad N hI C o hh gr f s0 kn h3 hs pa h5 h6 sl sla sv h7 h8 h9 pd n h4 h10 x y z B hok hBb hB0
  rw [← mW_id h1 h2] at h
  exact h
