/-! HoopStairsModel: it rolls -/
theorem pass_w {a : Nat} {f : Nat → Int32} {g : Int32} (h : ¬ (T_pass a f g).2.2 ≤ 0) : ∃ w : Nat, 1 ≤ w ∧ w ≤ 3 ∧ (T_pass a f g).2.2 = nI w := by
  unfold T_pass at h ⊢
  by_cases b : (T_meet a f).2 = 0
  · rw [if_pos b] at h ⊢
    by_cases c : f 0 ≤ iabs ((T_meet a f).1 8)
    · rw [if_pos c]; exact ⟨1, by decide, by decide, rfl⟩
    · rw [if_neg c] at h; exact absurd (Int32.le_refl 0) h
  · rw [if_neg b]
    rcases T_meet_how a f with q | q | q
    · exact absurd q b
    · exact ⟨2, by decide, by decide, q⟩
    · exact ⟨3, by decide, by decide, q⟩
theorem pass_z {a : Nat} {f : Nat → Int32} {g : Int32} (h : (T_pass a f g).2.2 ≤ 0) : (T_pass a f g).2.2 = 0 := by
  unfold T_pass at h ⊢
  by_cases b : (T_meet a f).2 = 0
  · rw [if_pos b] at h ⊢
    by_cases c : f 0 ≤ iabs ((T_meet a f).1 8)
    · rw [if_pos c] at h; exact absurd h (show ¬ (1 : Int32) ≤ 0 by decide)
    · rw [if_neg c]
  · rw [if_neg b] at h
    rcases T_meet_how a f with q | q | q
    · exact absurd q b
    · have h' : (T_meet a f).2 ≤ 0 := h
      rw [q] at h'; exact absurd h' (by decide)
    · have h' : (T_meet a f).2 ≤ 0 := h
      rw [q] at h'; exact absurd h' (by decide)
theorem pass_10 {a : Nat} {f : Nat → Int32} {g : Int32} (h : ¬ (T_pass a f g).2.2 = 0) : (T_pass a f g).1 10 = f 10 := by
  unfold T_pass at h ⊢
  by_cases b : (T_meet a f).2 = 0
  · rw [if_pos b] at h ⊢
    by_cases c : f 0 ≤ iabs ((T_meet a f).1 8)
    · rw [if_pos c]; exact T_meet_fr (by decide) (by decide) (by decide)
    · rw [if_neg c] at h; exact absurd rfl h
  · rw [if_neg b]; exact T_meet_fr (by decide) (by decide) (by decide)
theorem pass_10z {a : Nat} {f : Nat → Int32} {g : Int32} (h : (T_pass a f g).2.2 = 0) : (T_pass a f g).1 10 = f 10 + 1 := by
  unfold T_pass at h ⊢
  by_cases b : (T_meet a f).2 = 0
  · rw [if_pos b] at h ⊢
    by_cases c : f 0 ≤ iabs ((T_meet a f).1 8)
    · rw [if_pos c] at h; exact absurd h (show ¬ (1 : Int32) = 0 by decide)
    · rw [if_neg c]; show upd (T_meet a f).1 10 (f 10 + 1) 10 = f 10 + 1; exact upd_s
  · rw [if_neg b] at h; exact absurd h b
theorem step_how1 {f : Nat → Int32} {g : Int32} {a : Nat} (ea : (f 10).toNatClampNeg = a) (h : f 10 < f 4) (hw : ¬ (T_pass a f g).2.2 = 0) : T_step f g = (upd (T_pass a f g).1 11 (T_pass a f g).2.2, (T_pass a f g).2.1) := by
  unfold T_step
  rw [if_pos h, ea, if_neg hw]
theorem step_end {f : Nat → Int32} {g : Int32} {a : Nat} (ea : (f 10).toNatClampNeg = a) (h : f 10 < f 4) (hw : (T_pass a f g).2.2 = 0) (he : (T_pass a f g).1 10 = (T_pass a f g).1 4) : T_step f g = (upd (T_pass a f g).1 11 4, (T_pass a f g).2.1) := by
  have e1 := pass_10z hw
  have e4 : (T_pass a f g).1 4 = f 4 := T_pass_fr (by decide) (by decide) (by decide) (by decide)
  unfold T_step
  rw [if_pos h, ea, if_pos hw, if_neg (by rw [← e1, he, e4]; exact i_nlt (Int32.le_refl _))]
theorem step_on {f : Nat → Int32} {g : Int32} {a : Nat} {B : Int} (hs : okS f) (ho : okH B f) (ea : (f 10).toNatClampNeg = a) (h : f 10 < f 4) (hw : (T_pass a f g).2.2 = 0) (he : ¬ (T_pass a f g).1 10 = (T_pass a f g).1 4) : T_step f g = ((T_pass a f g).1, (T_pass a f g).2.1) := by
  have e1 := pass_10z hw
  have e4 : (T_pass a f g).1 4 = f 4 := T_pass_fr (by decide) (by decide) (by decide) (by decide)
  rw [e1, e4] at he
  have h' := Int32.lt_iff_toInt_lt.mp h
  have h4 := hs.2.2.2.2.1
  have h10 := ho.2.2.2.1
  have o : (1 : Int32).toInt = 1 := rfl
  have s := i_add (a := f 10) (b := 1) (by omega) (by omega)
  have n : ¬ (f 10 + 1).toInt = (f 4).toInt := fun q => he (Int32.toInt_inj.mp q)
  unfold T_step
  rw [if_pos h, ea, if_pos hw, if_pos (Int32.lt_iff_toInt_lt.mpr (by omega))]
theorem step_out {f : Nat → Int32} {g : Int32} (h : ¬ f 10 < f 4) : T_step f g = (upd f 11 4, g) := by
  unfold T_step
  rw [if_neg h]
theorem at_end {f : Nat → Int32} {B : Int} (ho : okH B f) (h : ¬ f 10 < f 4) : f 10 = f 4 := by
  have h' := Int32.le_iff_toInt_le.mp (i_le h)
  have := ho.2.2.2.1.2
  exact Int32.toInt_inj.mp (by omega)
theorem roll_stop (n : Nat) {f : Nat → Int32} {g : Int32} (h : ¬ f 11 = 0) : T_roll n f g = (f, g) := by
  cases n with
  | zero => rfl
  | succ n => show (if f 11 = 0 then T_roll n (T_step f g).1 (T_step f g).2 else (f, g)) = (f, g); rw [if_neg h]
def Rinv (B : Int) (m : Nat) (r : Nat → Int32) (gr : Int32) (k : Nat) (rk : Nat → Int32) (gk : Int32) : Prop :=
  (rk 11 = 0 ∧ okS rk ∧ okH (B + 25 * k) rk ∧ T_roll (m - k) rk gk = T_roll m r gr) ∨ (¬ rk 11 = 0 ∧ rk = T_ends (T_roll m r gr).1 ∧ gk = (T_roll m r gr).2 ∧ ¬ (T_roll m r gr).1 11 = 0)
theorem Rinv_fin {B : Int} {m k : Nat} {r rk : Nat → Int32} {gr gk : Int32} (h : Rinv B m r gr k rk gk) (hk : m ≤ k ∨ ¬ rk 11 = 0) : rk = T_rolled m r gr ∧ gk = (T_roll m r gr).2 := by
  rcases h with ⟨h11, hs, ho, hr⟩ | ⟨h11, hr, hg, h2⟩
  · rcases hk with q | q
    · rw [show m - k = 0 by omega] at hr
      have e1 : rk = (T_roll m r gr).1 := congrArg Prod.fst hr
      have e2 : gk = (T_roll m r gr).2 := congrArg Prod.snd hr
      exact ⟨by rw [rolled_out (by rw [← e1]; exact h11)]; exact e1, e2⟩
    · exact absurd h11 q
  · exact ⟨by rw [rolled_end h2]; exact hr, hg⟩
theorem Rinv_step {B : Int} {m k : Nat} {r rk F : Nat → Int32} {gr gk G : Int32} (hB : B + 25 * k ≤ 900000000) (hs : okS rk) (ho : okH (B + 25 * k) rk) (hr : T_roll (m - k) rk gk = T_roll m r gr) (h11 : rk 11 = 0) (hk : k < m) (hst : T_step rk gk = (F, G)) : (F 11 = 0 → Rinv B m r gr (k + 1) F G) ∧ (¬ F 11 = 0 → Rinv B m r gr (k + 1) (T_ends F) G) := by
  have q := T_roll_s m k rk r gk gr hr hk h11
  rw [hst] at q
  have e1 : F = (T_step rk gk).1 := by rw [hst]
  refine ⟨fun z => Or.inl ⟨z, ?_, ?_, q⟩, fun z => Or.inr ?_⟩
  · rw [e1]; exact okS_of hs (fun p a b c d e => T_step_fr a b c d e)
  · rw [e1, show B + 25 * ((k + 1 : Nat) : Int) = B + 25 * k + 25 by omega]; exact okH_step hB hs ho h11
  · have e : (F, G) = T_roll m r gr := (roll_stop _ z).symm.trans q
    have e1' : F = (T_roll m r gr).1 := congrArg Prod.fst e
    have e2' : G = (T_roll m r gr).2 := congrArg Prod.snd e
    have hE : endedOk F := by
      rw [e1]
      rcases step_how hs ho h11 (g := gk) with p | p
      · exact absurd p (by rw [← e1]; exact z)
      · exact p
    exact ⟨by rw [ends_11 F hE]; exact z, by rw [e1'], e2', by rw [← e1']; exact z⟩
theorem part_v {f : Nat → Int32} (hs : okS f) {a : Nat} (ha : a < 20) : ∃ v : Nat, v ≤ 99 ∧ f (62 + 5 * a) = nI v ∧ (f (62 + 5 * a)).toNatClampNeg = v := by
  have h := hs.2.2.2.2.2 a ha
  obtain ⟨e1, l1, i1⟩ := nI_rd (x := f (62 + 5 * a)) (M := 99) h.1 h.2
  exact ⟨_, l1, e1, rfl⟩
theorem cx_X8_ends (l : Launch) (D : va_G) (Y : Nat → ClassId) (ad : Nat → Nat) (N : Nat) (hI : wI ad N) (C : Nat → va_E) (o : Nat) (hh : o + 6 ≤ N) (kn n gr : Int32) (P : Nat) (hP0 : P = 0 ∨ P = 161) (r s0 : Nat → Int32) (k w : Nat) (hk : k < 20) (hk10 : r 10 = nI k) (hw1 : 1 ≤ w) (hw3 : w ≤ 3) (x : Int32) (ex : x = nI w) : Met l yX8_ends (wm yX8_ends cX8_ends 3 none) { frames := 1, cells := 0, slots := 0, locals := 22 } (wPc D Y ad N [.ref (ad o), .int (nI P), .int x] (mW Y ad C o kn n gr P r s0)) (wQv D ad N (fun C' => C' = mW Y ad C o kn n gr P (T_ends (upd r 11 x)) s0)) 0 0 (wA ad N) := by
  subst ex
  exact c_X8_ends_a l D Y ad N hI C o hh kn n gr P hP0 r s0 k w hk hk10 hw1 hw3
set_option maxRecDepth 20000 in
set_option maxHeartbeats 4000000 in
/-- it rolls -/
theorem c_X8_rolls (l : Launch) (D : va_G) (Y : Nat → ClassId) (ad : Nat → Nat) (N : Nat) (hI : wI ad N) (C : Nat → va_E) (o : Nat) (hh : o + 6 ≤ N) (kn n gr : Int32) (P : Nat) (hP0 : P = 0 ∨ P = 161) (r s0 : Nat → Int32) (B : Int) (mm : Nat) (hm : mm ≤ 21) (hB : B + 525 ≤ 900000000) (hok : okS r) (ho : okH B r) (h11 : r 11 = 0) (x : Int32) (ex : x = nI mm) : Met l yX8_rolls (wm yX8_rolls cX8_rolls 5 (some .int)) { frames := 3, cells := 0, slots := 0, locals := 70 } (wPc D Y ad N [.ref (ad o), .int (nI P), .int (x)] (mW Y ad C o kn n gr P r s0)) (wQi D ad N (fun q C' => C' = mW Y ad C o kn n ((T_roll mm r gr).2) P (T_rolled mm r gr) s0 ∧ q = T_rolled mm r gr 11)) 0 0 (wA ad N) := by
  refine wMet RX8 rfl (by decide +kernel) (Nat.le_of_ble_eq_true rfl) (lv := [(0, .ref (ad o)), (1, .int (nI P)), (2, .int (x))]) rfl ?_
  intro p e s m below meth c ls F hr hlocks hP hl
  have hS : va_S (wA ad N) s.heap s.heap [] := va_S.rf
  refine lv_iconst (v := 0) F.1 F.2.1 dX8_rolls_0 (by decide) ?_
  refine lv_istore_n (lv' := [(3, .int (0)), (0, .ref (ad o)), (1, .int (nI P)), (2, .int (x))]) F.1 F.2.1 dX8_rolls_1 rfl hl (by decide) rfl (fun ls hl => ?_)
  refine w_loop (Inv := fun j ls C' => ∃ (k : Nat) (rk : Nat → Int32) (gk : Int32), j = mm - k ∧ k ≤ mm ∧ lv_has ls 5 [(3, .int (nI k)), (0, .ref (ad o)), (1, .int (nI P)), (2, .int x)] ∧ C' = mW Y ad C o kn n gk P rk s0 ∧ Rinv B mm r gr k rk gk) ?_ mm ⟨0, r, gr, rfl, Nat.zero_le _, lv_sub hl [0, 1, 2, 3] rfl, rfl, Or.inl ⟨h11, hok, by rw [show B + 25 * ((0 : Nat) : Int) = B by omega]; exact ho, rfl⟩⟩ hP hS
  intro j ih H locs ls K0 hInv hP hS
  obtain ⟨k, rk, gk, hj, hk, hl, rfl, hR⟩ := hInv
  refine lv_iload_n F.1 F.2.1 dX8_rolls_2 rfl (lv_at hl 0 rfl) ?_
  refine lv_iload_n F.1 F.2.1 dX8_rolls_3 rfl (lv_at hl 3 rfl) ?_
  refine lv_icmp_ge (tgt := 97) F.1 F.2.1 dX8_rolls_4 (by decide) (fun c1 => ?_) (fun c1 => ?_)
  · refine lv_aload_n F.1 F.2.1 dX8_rolls_97 rfl (lv_at hl 1 rfl) ?_
    refine gf_X8_7 F hP (by omega) mW_o (v := .ref (ad (o + 1))) rfl dX8_rolls_98 ?_
    refine lv_iload_n F.1 F.2.1 dX8_rolls_101 rfl (lv_at hl 2 rfl) ?_
    refine lv_bipush (v := 11) F.1 F.2.1 dX8_rolls_102 (by decide) ?_
    refine lv_iadd F.1 F.2.1 dX8_rolls_104 ?_
    refine w_iald F hP (by omega) mW_s (k := P + 11) (ix_add (X := P) (Y := 11) (Z := P + 11) rfl rfl (by omega)) (by omega) (Nat.le_of_ble_eq_true rfl) (v := rk 11) (put_at (k := 11) (by omega) (by omega)) dX8_rolls_105 ?_
    exact w_iret F hr hlocks hP hS dX8_rolls_106 (by obtain ⟨e1, e2⟩ := Rinv_fin hR (Or.inl (Nat.le_of_not_lt (fun z => nI_ge z (by omega) (by rw [← ex]; exact c1)))); rw [← e1, ← e2]; exact ⟨rfl, rfl⟩)
  · refine lv_aload_n F.1 F.2.1 dX8_rolls_7 rfl (lv_at hl 1 rfl) ?_
    refine gf_X8_7 F hP (by omega) mW_o (v := .ref (ad (o + 1))) rfl dX8_rolls_8 ?_
    refine lv_iload_n F.1 F.2.1 dX8_rolls_11 rfl (lv_at hl 2 rfl) ?_
    refine lv_bipush (v := 11) F.1 F.2.1 dX8_rolls_12 (by decide) ?_
    refine lv_iadd F.1 F.2.1 dX8_rolls_14 ?_
    refine w_iald F hP (by omega) mW_s (k := P + 11) (ix_add (X := P) (Y := 11) (Z := P + 11) rfl rfl (by omega)) (by omega) (Nat.le_of_ble_eq_true rfl) (v := rk 11) (put_at (k := 11) (by omega) (by omega)) dX8_rolls_15 ?_
    refine lv_if_ne (tgt := 97) F.1 F.2.1 dX8_rolls_16 (by decide) (fun c2 => ?_) (fun c2 => ?_)
    · refine lv_aload_n F.1 F.2.1 dX8_rolls_97 rfl (lv_at hl 1 rfl) ?_
      refine gf_X8_7 F hP (by omega) mW_o (v := .ref (ad (o + 1))) rfl dX8_rolls_98 ?_
      refine lv_iload_n F.1 F.2.1 dX8_rolls_101 rfl (lv_at hl 2 rfl) ?_
      refine lv_bipush (v := 11) F.1 F.2.1 dX8_rolls_102 (by decide) ?_
      refine lv_iadd F.1 F.2.1 dX8_rolls_104 ?_
      refine w_iald F hP (by omega) mW_s (k := P + 11) (ix_add (X := P) (Y := 11) (Z := P + 11) rfl rfl (by omega)) (by omega) (Nat.le_of_ble_eq_true rfl) (v := rk 11) (put_at (k := 11) (by omega) (by omega)) dX8_rolls_105 ?_
      exact w_iret F hr hlocks hP hS dX8_rolls_106 (by obtain ⟨e1, e2⟩ := Rinv_fin hR (Or.inr c2); rw [← e1, ← e2]; exact ⟨rfl, rfl⟩)
    · have hkm : k < mm := Nat.lt_of_not_le (fun z => c1 (by rw [ex]; exact nI_le z (by omega)))
      obtain ⟨-, hsk, hok2, hrk⟩ := hR.resolve_right (fun q => q.1 c2)
      refine lv_aload_n F.1 F.2.1 dX8_rolls_19 rfl (lv_at hl 1 rfl) ?_
      refine gf_X8_7 F hP (by omega) mW_o (v := .ref (ad (o + 1))) rfl dX8_rolls_20 ?_
      refine lv_iload_n F.1 F.2.1 dX8_rolls_23 rfl (lv_at hl 2 rfl) ?_
      refine lv_bipush (v := 10) F.1 F.2.1 dX8_rolls_24 (by decide) ?_
      refine lv_iadd F.1 F.2.1 dX8_rolls_26 ?_
      refine w_iald F hP (by omega) mW_s (k := P + 10) (ix_add (X := P) (Y := 10) (Z := P + 10) rfl rfl (by omega)) (by omega) (Nat.le_of_ble_eq_true rfl) (v := rk 10) (put_at (k := 10) (by omega) (by omega)) dX8_rolls_27 ?_
      refine lv_aload_n F.1 F.2.1 dX8_rolls_28 rfl (lv_at hl 1 rfl) ?_
      refine gf_X8_7 F hP (by omega) mW_o (v := .ref (ad (o + 1))) rfl dX8_rolls_29 ?_
      refine lv_iload_n F.1 F.2.1 dX8_rolls_32 rfl (lv_at hl 2 rfl) ?_
      refine lv_iconst (v := 4) F.1 F.2.1 dX8_rolls_33 (by decide) ?_
      refine lv_iadd F.1 F.2.1 dX8_rolls_34 ?_
      refine w_iald F hP (by omega) mW_s (k := P + 4) (ix_add (X := P) (Y := 4) (Z := P + 4) rfl rfl (by omega)) (by omega) (Nat.le_of_ble_eq_true rfl) (v := rk 4) (put_at (k := 4) (by omega) (by omega)) dX8_rolls_35 ?_
      refine lv_icmp_ge (tgt := 47) F.1 F.2.1 dX8_rolls_36 (by decide) (fun c3 => ?_) (fun c3 => ?_)
      · refine lv_iconst (v := 0) F.1 F.2.1 dX8_rolls_47 (by decide) ?_
        refine lv_istore (lv' := [(4, .int (0)), (3, .int (nI k)), (0, .ref (ad o)), (1, .int (nI P)), (2, .int (x))]) F.1 F.2.1 dX8_rolls_48 hl (by decide) rfl (fun ls hl => ?_)
        refine lv_iload F.1 F.2.1 dX8_rolls_50 (lv_at hl 0 rfl) ?_
        refine lv_if_le (tgt := 65) F.1 F.2.1 dX8_rolls_52 (by decide) (fun c4 => ?_) (fun c4 => False.elim (by revert c4; decide))
        refine lv_aload_n F.1 F.2.1 dX8_rolls_65 rfl (lv_at hl 2 rfl) ?_
        refine gf_X8_7 F hP (by omega) mW_o (v := .ref (ad (o + 1))) rfl dX8_rolls_66 ?_
        refine lv_iload_n F.1 F.2.1 dX8_rolls_69 rfl (lv_at hl 3 rfl) ?_
        refine lv_bipush (v := 10) F.1 F.2.1 dX8_rolls_70 (by decide) ?_
        refine lv_iadd F.1 F.2.1 dX8_rolls_72 ?_
        refine w_iald F hP (by omega) mW_s (k := P + 10) (ix_add (X := P) (Y := 10) (Z := P + 10) rfl rfl (by omega)) (by omega) (Nat.le_of_ble_eq_true rfl) (v := rk 10) (put_at (k := 10) (by omega) (by omega)) dX8_rolls_73 ?_
        refine lv_aload_n F.1 F.2.1 dX8_rolls_74 rfl (lv_at hl 2 rfl) ?_
        refine gf_X8_7 F hP (by omega) mW_o (v := .ref (ad (o + 1))) rfl dX8_rolls_75 ?_
        refine lv_iload_n F.1 F.2.1 dX8_rolls_78 rfl (lv_at hl 3 rfl) ?_
        refine lv_iconst (v := 4) F.1 F.2.1 dX8_rolls_79 (by decide) ?_
        refine lv_iadd F.1 F.2.1 dX8_rolls_80 ?_
        refine w_iald F hP (by omega) mW_s (k := P + 4) (ix_add (X := P) (Y := 4) (Z := P + 4) rfl rfl (by omega)) (by omega) (Nat.le_of_ble_eq_true rfl) (v := rk 4) (put_at (k := 4) (by omega) (by omega)) dX8_rolls_81 ?_
        refine lv_icmp_ne (tgt := 91) F.1 F.2.1 dX8_rolls_82 (by decide) (fun c5 => False.elim (c5 (at_end hok2 (i_nlt c3)))) (fun c5 => ?_)
        refine lv_aload_n F.1 F.2.1 dX8_rolls_85 rfl (lv_at hl 2 rfl) ?_
        refine lv_iload_n F.1 F.2.1 dX8_rolls_86 rfl (lv_at hl 3 rfl) ?_
        refine lv_iconst (v := 4) F.1 F.2.1 dX8_rolls_87 (by decide) ?_
        refine w_callv F hP hS (c_X8_ends_p l D Y ad N hI C o hh kn n gk P hP0 rk s0) (cwVm 2 F.2.2.2.2.1 (fun _ h => h) mw_388 mw_385 mw_386 mw_387 mw_5 rfl rfl ydX8_ends ⟨by decide, by decide⟩) (by omega) mW_o rfl rfl hl.1 rfl (Nat.le_of_ble_eq_true rfl) dX8_rolls_88 ⟨Nat.zero_le _, Nat.zero_le _⟩ (fun Kq6 H locs hq6 hP hS => ?_)
        subst hq6
        refine lv_iinc (v := (nI k) + 1) (lv' := [(3, .int ((nI k) + 1)), (4, .int (0)), (0, .ref (ad o)), (1, .int (nI P)), (2, .int (x))]) F.1 F.2.1 dX8_rolls_91 hl (k := 1) rfl rfl (by decide) rfl (fun ls hl => ?_)
        refine lv_goto (tgt := 2) F.1 F.2.1 dX8_rolls_94 (by decide) ?_
        exact ih _ (by omega) _ _ _ _ ⟨k + 1, _, _, rfl, by omega, (by rw [nI_succ]; exact lv_sub hl [0, 2, 3, 4] rfl), rfl, ((Rinv_step (by omega) hsk hok2 hrk c2 hkm (step_out (i_nlt c3))).2 (by rw [upd_s]; decide))⟩ hP hS
      · have hlt : rk 10 < rk 4 := i_lt c3
        obtain ⟨a, ha, ea, eac⟩ : ∃ a : Nat, a < 20 ∧ rk 10 = nI a ∧ (rk 10).toNatClampNeg = a := by have q1 := hok2.2.2.2.1; have q2 := Int32.lt_iff_toInt_lt.mp hlt; have q3 := hsk.2.2.2.2.1; obtain ⟨e1, l1, i1⟩ := nI_rd (x := rk 10) (M := 20) q1.1 (by omega); exact ⟨_, by omega, e1, rfl⟩
        obtain ⟨v, hv, ev, evc⟩ := part_v hsk ha
        refine lv_aload_n F.1 F.2.1 dX8_rolls_39 rfl (lv_at hl 1 rfl) ?_
        refine lv_iload_n F.1 F.2.1 dX8_rolls_40 rfl (lv_at hl 2 rfl) ?_
        refine w_calli F hP hS (c_X8_passesPart l D Y ad N hI C o hh kn n gk P hP0 rk s0 a ha ea v hv ev evc) (cwVm 1 F.2.2.2.2.1 (fun _ h => h) mw_369 mw_366 mw_367 mw_368 mw_5 rfl rfl ydX8_passesPart ⟨by decide, by decide⟩) (by omega) mW_o rfl rfl hl.1 rfl (Nat.le_of_ble_eq_true rfl) dX8_rolls_41 ⟨Nat.zero_le _, Nat.zero_le _⟩ (fun rq7 Kq7 H locs hq7 hP hS => ?_)
        obtain ⟨hq7w, hq7r⟩ := hq7; subst hq7w
        subst hq7r
        refine lv_goto (tgt := 48) F.1 F.2.1 dX8_rolls_44 (by decide) ?_
        refine lv_istore (lv' := [(4, .int ((T_pass a rk gk).2.2)), (3, .int (nI k)), (0, .ref (ad o)), (1, .int (nI P)), (2, .int (x))]) F.1 F.2.1 dX8_rolls_48 hl (by decide) rfl (fun ls hl => ?_)
        refine lv_iload F.1 F.2.1 dX8_rolls_50 (lv_at hl 0 rfl) ?_
        refine lv_if_le (tgt := 65) F.1 F.2.1 dX8_rolls_52 (by decide) (fun c8 => ?_) (fun c8 => ?_)
        · refine lv_aload_n F.1 F.2.1 dX8_rolls_65 rfl (lv_at hl 2 rfl) ?_
          refine gf_X8_7 F hP (by omega) mW_o (v := .ref (ad (o + 1))) rfl dX8_rolls_66 ?_
          refine lv_iload_n F.1 F.2.1 dX8_rolls_69 rfl (lv_at hl 3 rfl) ?_
          refine lv_bipush (v := 10) F.1 F.2.1 dX8_rolls_70 (by decide) ?_
          refine lv_iadd F.1 F.2.1 dX8_rolls_72 ?_
          refine w_iald F hP (by omega) mW_s (k := P + 10) (ix_add (X := P) (Y := 10) (Z := P + 10) rfl rfl (by omega)) (by omega) (Nat.le_of_ble_eq_true rfl) (v := ((T_pass a rk gk).1) 10) (put_at (k := 10) (by omega) (by omega)) dX8_rolls_73 ?_
          refine lv_aload_n F.1 F.2.1 dX8_rolls_74 rfl (lv_at hl 2 rfl) ?_
          refine gf_X8_7 F hP (by omega) mW_o (v := .ref (ad (o + 1))) rfl dX8_rolls_75 ?_
          refine lv_iload_n F.1 F.2.1 dX8_rolls_78 rfl (lv_at hl 3 rfl) ?_
          refine lv_iconst (v := 4) F.1 F.2.1 dX8_rolls_79 (by decide) ?_
          refine lv_iadd F.1 F.2.1 dX8_rolls_80 ?_
          refine w_iald F hP (by omega) mW_s (k := P + 4) (ix_add (X := P) (Y := 4) (Z := P + 4) rfl rfl (by omega)) (by omega) (Nat.le_of_ble_eq_true rfl) (v := ((T_pass a rk gk).1) 4) (put_at (k := 4) (by omega) (by omega)) dX8_rolls_81 ?_
          refine lv_icmp_ne (tgt := 91) F.1 F.2.1 dX8_rolls_82 (by decide) (fun c9 => ?_) (fun c9 => ?_)
          · refine lv_iinc (v := (nI k) + 1) (lv' := [(3, .int ((nI k) + 1)), (4, .int ((T_pass a rk gk).2.2)), (0, .ref (ad o)), (1, .int (nI P)), (2, .int (x))]) F.1 F.2.1 dX8_rolls_91 hl (k := 1) rfl rfl (by decide) rfl (fun ls hl => ?_)
            refine lv_goto (tgt := 2) F.1 F.2.1 dX8_rolls_94 (by decide) ?_
            exact ih _ (by omega) _ _ _ _ ⟨k + 1, _, _, rfl, by omega, (by rw [nI_succ]; exact lv_sub hl [0, 2, 3, 4] rfl), rfl, ((Rinv_step (by omega) hsk hok2 hrk c2 hkm (step_on hsk hok2 eac hlt (pass_z c8) c9)).1 ((T_pass_fr (by decide) (by decide) (by decide) (by decide)).trans c2))⟩ hP hS
          · refine lv_aload_n F.1 F.2.1 dX8_rolls_85 rfl (lv_at hl 2 rfl) ?_
            refine lv_iload_n F.1 F.2.1 dX8_rolls_86 rfl (lv_at hl 3 rfl) ?_
            refine lv_iconst (v := 4) F.1 F.2.1 dX8_rolls_87 (by decide) ?_
            refine w_callv F hP hS (c_X8_ends_p l D Y ad N hI C o hh kn n ((T_pass a rk gk).2.1) P hP0 ((T_pass a rk gk).1) s0) (cwVm 2 F.2.2.2.2.1 (fun _ h => h) mw_388 mw_385 mw_386 mw_387 mw_5 rfl rfl ydX8_ends ⟨by decide, by decide⟩) (by omega) mW_o rfl rfl hl.1 rfl (Nat.le_of_ble_eq_true rfl) dX8_rolls_88 ⟨Nat.zero_le _, Nat.zero_le _⟩ (fun Kq10 H locs hq10 hP hS => ?_)
            subst hq10
            refine lv_iinc (v := (nI k) + 1) (lv' := [(3, .int ((nI k) + 1)), (4, .int ((T_pass a rk gk).2.2)), (0, .ref (ad o)), (1, .int (nI P)), (2, .int (x))]) F.1 F.2.1 dX8_rolls_91 hl (k := 1) rfl rfl (by decide) rfl (fun ls hl => ?_)
            refine lv_goto (tgt := 2) F.1 F.2.1 dX8_rolls_94 (by decide) ?_
            exact ih _ (by omega) _ _ _ _ ⟨k + 1, _, _, rfl, by omega, (by rw [nI_succ]; exact lv_sub hl [0, 2, 3, 4] rfl), rfl, ((Rinv_step (by omega) hsk hok2 hrk c2 hkm (step_end eac hlt (pass_z c8) c9)).2 (by rw [upd_s]; decide))⟩ hP hS
        · refine lv_aload_n F.1 F.2.1 dX8_rolls_55 rfl (lv_at hl 2 rfl) ?_
          refine lv_iload_n F.1 F.2.1 dX8_rolls_56 rfl (lv_at hl 3 rfl) ?_
          refine lv_iload F.1 F.2.1 dX8_rolls_57 (lv_at hl 0 rfl) ?_
          obtain ⟨w, hw1, hw3, ew⟩ := pass_w c8
          have hnz : ¬ (T_pass a rk gk).2.2 = 0 := fun q => c8 (by rw [q]; decide)
          refine w_callv F hP hS (cx_X8_ends l D Y ad N hI C o hh kn n ((T_pass a rk gk).2.1) P hP0 ((T_pass a rk gk).1) s0 a w ha ((pass_10 hnz).trans ea) hw1 hw3 ((T_pass a rk gk).2.2) ew) (cwVm 2 F.2.2.2.2.1 (fun _ h => h) mw_388 mw_385 mw_386 mw_387 mw_5 rfl rfl ydX8_ends ⟨by decide, by decide⟩) (by omega) mW_o rfl rfl hl.1 rfl (Nat.le_of_ble_eq_true rfl) dX8_rolls_59 ⟨Nat.zero_le _, Nat.zero_le _⟩ (fun Kq11 H locs hq11 hP hS => ?_)
          subst hq11
          refine lv_goto (tgt := 91) F.1 F.2.1 dX8_rolls_62 (by decide) ?_
          refine lv_iinc (v := (nI k) + 1) (lv' := [(3, .int ((nI k) + 1)), (4, .int ((T_pass a rk gk).2.2)), (0, .ref (ad o)), (1, .int (nI P)), (2, .int (x))]) F.1 F.2.1 dX8_rolls_91 hl (k := 1) rfl rfl (by decide) rfl (fun ls hl => ?_)
          refine lv_goto (tgt := 2) F.1 F.2.1 dX8_rolls_94 (by decide) ?_
          exact ih _ (by omega) _ _ _ _ ⟨k + 1, _, _, rfl, by omega, (by rw [nI_succ]; exact lv_sub hl [0, 2, 3, 4] rfl), rfl, ((Rinv_step (by omega) hsk hok2 hrk c2 hkm (step_how1 eac hlt hnz)).2 (by rw [upd_s]; exact hnz))⟩ hP hS
