/-! HoopStairs: what if; nothing changes -/
theorem okS_row {f f1 : Nat → Int32} (h : okS f) (r : ∀ q, q < 5 ∨ 61 ≤ q → f1 q = f q) : okS f1 := by
  unfold okS
  rw [r 0 (by decide), r 1 (by decide), r 2 (by decide), r 3 (by decide), r 4 (by decide)]
  exact ⟨h.1, h.2.1, h.2.2.1, h.2.2.2.1, h.2.2.2.2.1, fun k hk => by rw [r _ (by omega)]; exact h.2.2.2.2.2 k hk⟩
theorem okH_begin {B : Int} {f : Nat → Int32} (x : Int32) (hB : 0 ≤ B) (hs : okS f) : okH B (T_begin x f) := by
  have h4 := hs.2.2.2.2.1
  have e7 : T_begin x f 7 = 10 := rfl
  have e8 : T_begin x f 8 = 0 := rfl
  have e9 : T_begin x f 9 = 0 := rfl
  have e10 : T_begin x f 10 = 0 := rfl
  have e11 : T_begin x f 11 = 0 := rfl
  have e4 : T_begin x f 4 = f 4 := rfl
  have z : (0 : Int32).toInt = 0 := rfl
  have t : (10 : Int32).toInt = 10 := rfl
  unfold okH
  rw [e7, e8, e9, e10, e11, e4, z, t]
  omega
def T_taps (x : Int32) (f : Nat → Int32) : Nat → Nat → Int32
  | 0 => f
  | k + 1 => T_tap x (T_taps x f k)
theorem taps_out {x : Int32} {f : Nat → Int32} {q : Nat} (h : q ≠ 8 ∧ q ≠ 9 ∧ q ≠ 12) (k : Nat) : T_taps x f k q = f q := by
  induction k with
  | zero => rfl
  | succ k ih => show T_tap x (T_taps x f k) q = f q; rw [tap_out h, ih]
theorem okH_tap {B : Int} {f : Nat → Int32} (x : Int32) (hB : B + 30 ≤ 900000000) (hs : okS f) (h : okH B f) : okH (B + 30) (T_tap x f) := by
  obtain ⟨h7, h8, h9, h10, h11⟩ := h
  have h3 := hs.2.2.2.1
  have e7 : T_tap x f 7 = f 7 := tap_out (by decide)
  have e10 : T_tap x f 10 = f 10 := tap_out (by decide)
  have e11 : T_tap x f 11 = f 11 := tap_out (by decide)
  have e4 : T_tap x f 4 = f 4 := tap_out (by decide)
  have e8 : T_tap x f 8 = f 8 + (if x = 0 then f 3 else -f 3) := rfl
  have e9 : T_tap x f 9 = mn99 (f 9 + 2) := rfl
  have t : (2 : Int32).toInt = 2 := rfl
  have a := i_add (a := f 9) (b := 2) (by omega) (by omega)
  have m := mn99_in (x := f 9 + 2) (by omega)
  have d : -30 ≤ (if x = 0 then f 3 else -f 3).toInt ∧ (if x = 0 then f 3 else -f 3).toInt ≤ 30 := by
    by_cases q : x = 0
    · rw [if_pos q]; omega
    · rw [if_neg q, i_neg (by omega)]; omega
  have b := i_add (a := f 8) (b := if x = 0 then f 3 else -f 3) (by omega) (by omega)
  unfold okH
  rw [e7, e8, e9, e10, e11, e4, b]
  exact ⟨h7, by omega, m, h10, h11⟩
theorem okH_taps {B : Int} {f : Nat → Int32} (x : Int32) (k : Nat) (hB : B + 30 * k ≤ 900000000) (hs : okS f) (h : okH B f) : okH (B + 30 * k) (T_taps x f k) := by
  induction k with
  | zero => rw [show B + 30 * ((0 : Nat) : Int) = B by omega]; exact h
  | succ k ih =>
    have q := okH_tap x (by omega) (okS_row hs (f1 := T_taps x f k) (fun q hq => taps_out (by omega) k)) (ih (by omega))
    rw [show B + 30 * ((k + 1 : Nat) : Int) = B + 30 * k + 30 by omega]; exact q
/-- what a run of the hoop would come to -/
def T_ifr (f : Nat → Int32) (x : Int32) : Int32 := if 0 ≤ x ∧ x ≤ 3 then (if f 5 = 1 ∧ f 11 = 0 then (if x = 0 then (T_roll 20 f 0).1 11 else if x = 1 then (T_roll 20 f 0).1 10 else if x = 2 then (T_roll 20 f 0).1 7 else (T_roll 20 f 0).2) else -5) else -2
def T_wide (f : Nat → Int32) : Nat → Int32
  | 0 => -6
  | k + 1 => if (T_roll 20 (T_begin (nI (k + 1)) f) 0).1 11 = 4 then nI (k + 1) else T_wide f k
def T_svl (x : Int32) (f : Nat → Int32) : Nat → Nat → Int32
  | 0, _ => -6
  | m + 1, t => if (T_roll 20 (T_taps x f t) 0).1 11 = 4 then nI t else T_svl x f m (t + 1)
def T_svs (f : Nat → Int32) (x : Int32) : Int32 := if T_te x f = 0 then T_svl x f 21 0 else T_te x f
def T_trc (f : Nat → Int32) (x y z : Int32) : Int32 := if 0 ≤ y ∧ y < f 4 ∧ y < 20 then (if (1 ≤ x ∧ x ≤ 60) ∧ 0 ≤ z ∧ z ≤ 2 then (if (T_roll (y.toNatClampNeg + 1) (T_begin x f) 0).1 11 = 0 ∨ (T_roll (y.toNatClampNeg + 1) (T_begin x f) 0).1 11 = 4 then T_about (T_roll (y.toNatClampNeg + 1) (T_begin x f) 0).1 (z + 1) else -6) else -2) else -1
theorem nI_dec (k : Nat) : nI (k + 1) + (-1) = nI k := (Int32.sub_eq_add_neg _ _).symm.trans (nI_pred k)
theorem hp_begin {x : Int32} {f : Nat → Int32} : hpV 1 x 10 0 0 0 0 0 0 0 = hpR (T_begin x f) 0 := rfl
theorem cls_now {Y : Nat → ClassId} {ad : Nat → Nat} {C : Nat → va_E} {o : Nat} {FF : Nat → Nat → Int32} {GG : Nat → Int32} {nx kn n : Nat} {fl pd : Nat → Int32} (h : isCls Y ad C o FF GG nx kn fl pd n) : isState Y ad C (o + 1) (FF 0) (GG 0) := h.2.2.2.2.2.2.2 0 (by decide)
theorem cx_X1_rollOver (l : Launch) (D : va_G) (Y : Nat → ClassId) (ad : Nat → Nat) (N : Nat) (hI : wI ad N) (C : Nat → va_E) (h : Nat) (hh : h < N) (f : Nat → Int32) (g : Int32) (hC : C h = hpR f g) (B : Int) (x : Int32) (n st se : Nat) (hn : n ≤ 21) (hB : B + 525 ≤ 900000000) (hh2 : st + 6 < N) (hh3 : se + 1 < N) (hd1 : h < st ∨ st + 7 ≤ h) (hd2 : h < se ∨ se + 2 ≤ h) (hst : isStair Y ad C st f) (hse : isSett Y ad C se f) (hs : okS f) (ho : okH B f) (h5 : f 5 = 1) (ex : x = nI n) : Met l yX1_rollOver (wm yX1_rollOver cX1_rollOver 5 none) { frames := 4, cells := 0, slots := 0, locals := 84 } (wPc D Y ad N [.ref (ad h), .int x, .ref (ad st), .ref (ad se)] C) (wQv D ad N (fun C' => C' = va_up C h (hpR (T_roll n f g).1 (T_roll n f g).2))) 0 0 (wA ad N) := by
  subst ex
  exact c_X1_rollOver l D Y ad N hI C h hh f g hC B n st se hn hB hh2 hh3 hd1 hd2 hst hse hs ho h5
set_option maxRecDepth 20000 in
set_option maxHeartbeats 4000000 in
/-- what a run would come to -/
theorem c_X7_ifRolled (l : Launch) (D : va_G) (Y : Nat → ClassId) (ad : Nat → Nat) (N : Nat) (hI : wI ad N) (C : Nat → va_E) (o : Nat) (hh : o + 170 ≤ N) (f : Nat → Int32) (hs : Nat → Nat → Int32) (kn : Nat) (sl : Nat → Nat → Int32) (sv : Nat → Int32) (pd : Nat → Int32) (n : Nat) (hA : clsA Y ad C o f hs kn sl sv pd n) (x : Int32) (B : Int) (hok : okRow B f) (hBb : B + 2000 ≤ 900000000) (hB0 : 0 ≤ B) : Met l yX7_ifRolled (wm yX7_ifRolled cX7_ifRolled 2 (some .int)) { frames := 5, cells := 0, slots := 0, locals := 108 } (wPc D Y ad N [.ref (ad o), .int (x)] C) (wQi D ad N (fun r C' => r = T_ifr f x ∧ clsA Y ad C' o f hs kn sl sv pd n ∧ ∀ j, j < o ∨ o + 170 ≤ j → C' j = C j)) 0 0 (wA ad N) := by
  obtain ⟨FF, GG, nx, fl, hc, hnx, hkn, hn80, h0, hhi, h7, h8, hv0, hv1⟩ := id hA
  have hnow : isState Y ad C (o + 1) f (GG 0) := by have q := hc.2.2.2.2.2.2.2 0 (by decide); rw [h0] at q; exact q
  obtain ⟨ft, gt, htr⟩ := hc.2.2.2.2.2.2.1
  refine wMet RX7 rfl (by decide +kernel) (Nat.le_of_ble_eq_true rfl) (lv := [(0, .ref (ad o)), (1, .int (x))]) rfl ?_
  intro p e s m below meth c ls F hr hlocks hP hl
  have hS : va_S (wA ad N) s.heap s.heap [] := va_S.rf
  refine lv_iload_n F.1 F.2.1 dX7_ifRolled_0 rfl (lv_at hl 1 rfl) ?_
  refine lv_if_lt (tgt := 9) F.1 F.2.1 dX7_ifRolled_1 (by decide) (fun c1 => ?_) (fun c1 => ?_)
  · refine lv_bipush (v := (-2)) F.1 F.2.1 dX7_ifRolled_9 (by decide) ?_
    exact w_iret F hr hlocks hP hS dX7_ifRolled_11 ⟨by unfold T_ifr; rw [if_neg (fun q => i_nle c1 q.1)], hA, fun _ _ => rfl⟩
  · refine lv_iload_n F.1 F.2.1 dX7_ifRolled_4 rfl (lv_at hl 1 rfl) ?_
    refine lv_iconst (v := 3) F.1 F.2.1 dX7_ifRolled_5 (by decide) ?_
    refine lv_icmp_le (tgt := 12) F.1 F.2.1 dX7_ifRolled_6 (by decide) (fun c2 => ?_) (fun c2 => ?_)
    · refine lv_aload_n F.1 F.2.1 dX7_ifRolled_12 rfl (lv_at hl 0 rfl) ?_
      refine gf_X7_10 F hP (by omega) hc.1 (v := .ref (ad (o + 1))) rfl dX7_ifRolled_13 ?_
      refine gf_X7_111 F hP (by omega) hnow.1 (v := .ref (ad ((o + 1) + 10))) rfl dX7_ifRolled_16 ?_
      refine w_calli F hP hS (c_X1_rolls l D Y ad N hI _ (o + 1 + 10) (by omega) (f 5) (f 6) (f 7) (f 8) (f 9) (f 10) (f 11) (f 12) (f 13) (GG 0) hnow.2.2.2.1 hok.2.1) (cwVm 0 F.2.2.2.2.1 (fun _ h => h) mw_286 mw_510 mw_284 mw_285 mw_30 rfl rfl ydX1_rolls ⟨by decide, by decide⟩) (by omega) hnow.2.2.2.1 rfl rfl hl.1 rfl (Nat.le_of_ble_eq_true rfl) dX7_ifRolled_19 ⟨Nat.zero_le _, Nat.zero_le _⟩ (fun r C2 H locs hq hP hS => ?_)
      obtain ⟨hq1, hbrr3⟩ := hq; rw [hq1] at hP; generalize r = rr3 at hbrr3 ⊢
      refine lv_if_ne (tgt := 28) F.1 F.2.1 dX7_ifRolled_22 (by decide) (fun c4 => ?_) (fun c4 => ?_)
      · have h5 : f 5 = 1 := (b_t hbrr3 c4).1
        refine lv_aload_n F.1 F.2.1 dX7_ifRolled_28 rfl (lv_at hl 0 rfl) ?_
        refine gf_X7_41 F hP (by omega) hc.1 (v := .ref (ad (o + 169))) rfl dX7_ifRolled_29 ?_
        refine lv_aload_n F.1 F.2.1 dX7_ifRolled_32 rfl (lv_at hl 0 rfl) ?_
        refine gf_X7_10 F hP (by omega) hc.1 (v := .ref (ad (o + 1))) rfl dX7_ifRolled_33 ?_
        refine gf_X7_111 F hP (by omega) hnow.1 (v := .ref (ad ((o + 1) + 10))) rfl dX7_ifRolled_36 ?_
        refine w_callv F hP hS (c_X1_copyFrom l D Y ad N hI _ (o + 169) (by omega) (ft 5) (ft 6) (ft 7) (ft 8) (ft 9) (ft 10) (ft 11) (ft 12) (ft 13) gt htr (o + 1 + 10) (by omega) (by omega) (f 5) (f 6) (f 7) (f 8) (f 9) (f 10) (f 11) (f 12) (f 13) (GG 0) hnow.2.2.2.1 hok.2.1) (cwVm 1 F.2.2.2.2.1 (fun _ h => h) mw_150 mw_511 mw_148 mw_149 mw_30 rfl rfl ydX1_copyFrom ⟨by decide, by decide⟩) (by omega) htr rfl rfl hl.1 rfl (Nat.le_of_ble_eq_true rfl) dX7_ifRolled_39 ⟨Nat.zero_le _, Nat.zero_le _⟩ (fun K1 H locs hq1 hP hS => ?_)
        have htr1 : K1 (o + 169) = hpR f (GG 0) := by rw [hq1]; exact va_up_self _ _ _
        have sf1 : ∀ j, j ≠ o + 169 → K1 j = C j := fun j hj => (show K1 j = C j by rw [hq1, va_up_ne _ _ hj]).trans ((fun _ _ => rfl) j hj)
        have hc1 := cls_trial hc htr1 sf1
        have hnow1 : isState Y ad K1 (o + 1) f (GG 0) := isState_same hnow (fun j a z => sf1 j (by omega))
        refine lv_aload_n F.1 F.2.1 dX7_ifRolled_42 rfl (lv_at hl 0 rfl) ?_
        refine gf_X7_41 F hP (by omega) hc1.1 (v := .ref (ad (o + 169))) rfl dX7_ifRolled_43 ?_
        refine lv_iconst (v := 0) F.1 F.2.1 dX7_ifRolled_46 (by decide) ?_
        obtain ⟨K2, hq2⟩ : ∃ z, z = va_up K1 (o + 169) (hpR f 0) := ⟨_, rfl⟩
        refine pf_X7_173 F hI hP hS (by omega) htr1 (Nat.le_of_ble_eq_true rfl) (C1 := K2) (fun j => (congrFun hq2 j).symm) dX7_ifRolled_47 (fun H locs hP hS => ?_)
        have htr2 : K2 (o + 169) = hpR f 0 := by rw [hq2]; exact va_up_self _ _ _
        have sf2 : ∀ j, j ≠ o + 169 → K2 j = C j := fun j hj => (show K2 j = K1 j by rw [hq2, va_up_ne _ _ hj]).trans (sf1 j hj)
        have hc2 := cls_trial hc htr2 sf2
        have hnow2 : isState Y ad K2 (o + 1) f (GG 0) := isState_same hnow (fun j a z => sf2 j (by omega))
        refine lv_aload_n F.1 F.2.1 dX7_ifRolled_50 rfl (lv_at hl 0 rfl) ?_
        refine gf_X7_41 F hP (by omega) hc2.1 (v := .ref (ad (o + 169))) rfl dX7_ifRolled_51 ?_
        refine lv_bipush (v := 20) F.1 F.2.1 dX7_ifRolled_54 (by decide) ?_
        refine lv_aload_n F.1 F.2.1 dX7_ifRolled_56 rfl (lv_at hl 0 rfl) ?_
        refine gf_X7_10 F hP (by omega) hc2.1 (v := .ref (ad (o + 1))) rfl dX7_ifRolled_57 ?_
        refine gf_X7_70 F hP (by omega) hnow2.1 (v := .ref (ad ((o + 1) + 3))) rfl dX7_ifRolled_60 ?_
        refine lv_aload_n F.1 F.2.1 dX7_ifRolled_63 rfl (lv_at hl 0 rfl) ?_
        refine gf_X7_10 F hP (by omega) hc2.1 (v := .ref (ad (o + 1))) rfl dX7_ifRolled_64 ?_
        refine gf_X7_45 F hP (by omega) hnow2.1 (v := .ref (ad ((o + 1) + 1))) rfl dX7_ifRolled_67 ?_
        refine w_callv F hP hS (cx_X1_rollOver l D Y ad N hI _ (o + 169) (by omega) f 0 htr2 B 20 20 (o + 1 + 3) (o + 1 + 1) (by omega) (by omega) (by omega) (by omega) (by omega) (by omega) hnow2.2.2.1 hnow2.2.1 hok.1 (hok.2.2.1 h5) h5 rfl) (cwVm 3 F.2.2.2.2.1 (fun _ h => h) mw_294 mw_512 mw_292 mw_293 mw_30 rfl rfl ydX1_rollOver ⟨by decide, by decide⟩) (by omega) htr2 rfl rfl hl.1 rfl (Nat.le_of_ble_eq_true rfl) dX7_ifRolled_70 ⟨Nat.zero_le _, Nat.zero_le _⟩ (fun K3 H locs hq3 hP hS => ?_)
        have htr3 : K3 (o + 169) = hpR ((T_roll 20 f 0).1) ((T_roll 20 f 0).2) := by rw [hq3]; exact va_up_self _ _ _
        have sf3 : ∀ j, j ≠ o + 169 → K3 j = C j := fun j hj => (show K3 j = K2 j by rw [hq3, va_up_ne _ _ hj]).trans (sf2 j hj)
        have hc3 := cls_trial hc htr3 sf3
        have hnow3 : isState Y ad K3 (o + 1) f (GG 0) := isState_same hnow (fun j a z => sf3 j (by omega))
        refine lv_iload_n F.1 F.2.1 dX7_ifRolled_73 rfl (lv_at hl 1 rfl) ?_
        by_cases k5 : x = 0
        · refine lv_tableIn (off := 26) (tgt := 100) F.1 F.2.1 dX7_ifRolled_74 (by rw [k5]; decide) (by rw [k5]; decide) (by rw [k5]; rfl) (by decide) ?_
          refine lv_aload_n F.1 F.2.1 dX7_ifRolled_100 rfl (lv_at hl 0 rfl) ?_
          refine gf_X7_41 F hP (by omega) hc3.1 (v := .ref (ad (o + 169))) rfl dX7_ifRolled_101 ?_
          refine gf_X7_156 F hP (by omega) htr3 (v := .int (((T_roll 20 f 0).1) 11)) rfl dX7_ifRolled_104 ?_
          exact w_iret F hr hlocks hP hS dX7_ifRolled_107 ⟨by unfold T_ifr; rw [if_pos ⟨i_le c1, c2⟩, if_pos (b_t hbrr3 c4)]; simp only [if_pos k5], (A_pad hnx hkn hn80 h0 hhi h7 h8 hv0 hv1 hc3), fun j hj => sf3 j (by omega)⟩
        · by_cases k6 : x = 1
          · refine lv_tableIn (off := 34) (tgt := 108) F.1 F.2.1 dX7_ifRolled_74 (by rw [k6]; decide) (by rw [k6]; decide) (by rw [k6]; rfl) (by decide) ?_
            refine lv_aload_n F.1 F.2.1 dX7_ifRolled_108 rfl (lv_at hl 0 rfl) ?_
            refine gf_X7_41 F hP (by omega) hc3.1 (v := .ref (ad (o + 169))) rfl dX7_ifRolled_109 ?_
            refine gf_X7_153 F hP (by omega) htr3 (v := .int (((T_roll 20 f 0).1) 10)) rfl dX7_ifRolled_112 ?_
            exact w_iret F hr hlocks hP hS dX7_ifRolled_115 ⟨by unfold T_ifr; rw [if_pos ⟨i_le c1, c2⟩, if_pos (b_t hbrr3 c4)]; simp only [if_neg k5, if_pos k6], (A_pad hnx hkn hn80 h0 hhi h7 h8 hv0 hv1 hc3), fun j hj => sf3 j (by omega)⟩
          · by_cases k7 : x = 2
            · refine lv_tableIn (off := 42) (tgt := 116) F.1 F.2.1 dX7_ifRolled_74 (by rw [k7]; decide) (by rw [k7]; decide) (by rw [k7]; rfl) (by decide) ?_
              refine lv_aload_n F.1 F.2.1 dX7_ifRolled_116 rfl (lv_at hl 0 rfl) ?_
              refine gf_X7_41 F hP (by omega) hc3.1 (v := .ref (ad (o + 169))) rfl dX7_ifRolled_117 ?_
              refine gf_X7_144 F hP (by omega) htr3 (v := .int (((T_roll 20 f 0).1) 7)) rfl dX7_ifRolled_120 ?_
              exact w_iret F hr hlocks hP hS dX7_ifRolled_123 ⟨by unfold T_ifr; rw [if_pos ⟨i_le c1, c2⟩, if_pos (b_t hbrr3 c4)]; simp only [if_neg k5, if_neg k6, if_pos k7], (A_pad hnx hkn hn80 h0 hhi h7 h8 hv0 hv1 hc3), fun j hj => sf3 j (by omega)⟩
            · refine lv_tableOut (tgt := 124) F.1 F.2.1 dX7_ifRolled_74 (by have := lv_neT k5 (a := 0) rfl; have := lv_neT k6 (a := 1) rfl; have := lv_neT k7 (a := 2) rfl; omega) (by decide) ?_
              refine lv_aload_n F.1 F.2.1 dX7_ifRolled_124 rfl (lv_at hl 0 rfl) ?_
              refine gf_X7_41 F hP (by omega) hc3.1 (v := .ref (ad (o + 169))) rfl dX7_ifRolled_125 ?_
              refine gf_X7_173 F hP (by omega) htr3 (v := .int ((T_roll 20 f 0).2)) rfl dX7_ifRolled_128 ?_
              exact w_iret F hr hlocks hP hS dX7_ifRolled_131 ⟨by unfold T_ifr; rw [if_pos ⟨i_le c1, c2⟩, if_pos (b_t hbrr3 c4)]; simp only [if_neg k5, if_neg k6, if_neg k7], (A_pad hnx hkn hn80 h0 hhi h7 h8 hv0 hv1 hc3), fun j hj => sf3 j (by omega)⟩
      · refine lv_bipush (v := (-5)) F.1 F.2.1 dX7_ifRolled_25 (by decide) ?_
        exact w_iret F hr hlocks hP hS dX7_ifRolled_27 ⟨by unfold T_ifr; rw [if_pos ⟨i_le c1, c2⟩, if_neg (b_f hbrr3 c4)], hA, fun _ _ => rfl⟩
    · refine lv_bipush (v := (-2)) F.1 F.2.1 dX7_ifRolled_9 (by decide) ?_
      exact w_iret F hr hlocks hP hS dX7_ifRolled_11 ⟨by unfold T_ifr; rw [if_neg (fun q => c2 q.2)], hA, fun _ _ => rfl⟩
set_option maxRecDepth 20000 in
set_option maxHeartbeats 4000000 in
/-- the widest hoop that passes -/
theorem c_X7_widest (l : Launch) (D : va_G) (Y : Nat → ClassId) (ad : Nat → Nat) (N : Nat) (hI : wI ad N) (C : Nat → va_E) (o : Nat) (hh : o + 170 ≤ N) (f : Nat → Int32) (hs : Nat → Nat → Int32) (kn : Nat) (sl : Nat → Nat → Int32) (sv : Nat → Int32) (pd : Nat → Int32) (n : Nat) (hA : clsA Y ad C o f hs kn sl sv pd n) (B : Int) (hok : okRow B f) (hBb : B + 2000 ≤ 900000000) (hB0 : 0 ≤ B) : Met l yX7_widest (wm yX7_widest cX7_widest 2 (some .int)) { frames := 5, cells := 0, slots := 0, locals := 108 } (wPc D Y ad N [.ref (ad o)] C) (wQi D ad N (fun r C' => r = T_wide f 60 ∧ clsA Y ad C' o f hs kn sl sv pd n ∧ ∀ j, j < o ∨ o + 170 ≤ j → C' j = C j)) 0 0 (wA ad N) := by
  obtain ⟨FF, GG, nx, fl, hc, hnx, hkn, hn80, h0, hhi, h7, h8, hv0, hv1⟩ := id hA
  have hnow : isState Y ad C (o + 1) f (GG 0) := by have q := hc.2.2.2.2.2.2.2 0 (by decide); rw [h0] at q; exact q
  obtain ⟨ft, gt, htr⟩ := hc.2.2.2.2.2.2.1
  refine wMet RX7 rfl (by decide +kernel) (Nat.le_of_ble_eq_true rfl) (lv := [(0, .ref (ad o))]) rfl ?_
  intro p e s m below meth c ls F hr hlocks hP hl
  have hS : va_S (wA ad N) s.heap s.heap [] := va_S.rf
  refine lv_bipush (v := 60) F.1 F.2.1 dX7_widest_0 (by decide) ?_
  refine lv_istore_n (lv' := [(1, .int (60)), (0, .ref (ad o))]) F.1 F.2.1 dX7_widest_2 rfl hl (by decide) rfl (fun ls hl => ?_)
  refine w_loop (Inv := fun j ls C' => ∃ (k : Nat) (ft : Nat → Int32) (gt : Int32), j = k ∧ k ≤ 60 ∧ lv_has ls 2 [(1, .int (nI k)), (0, .ref (ad o))] ∧ C' (o + 169) = hpR ft gt ∧ (∀ j, j ≠ o + 169 → C' j = C j) ∧ T_wide f k = T_wide f 60) ?_ 60 ⟨60, ft, gt, rfl, by decide, lv_sub hl [0, 1] rfl, htr, fun _ _ => rfl, rfl⟩ hP hS
  intro j ih H locs ls K0 hInv hP hS
  obtain ⟨k, ft0, gt0, hj, hk60, hl, htr0, sf0, hW⟩ := hInv
  have hc0 := cls_trial hc htr0 sf0
  have hnow0 : isState Y ad K0 (o + 1) f (GG 0) := isState_same hnow (fun j a z => sf0 j (by omega))
  refine lv_iload_n F.1 F.2.1 dX7_widest_3 rfl (lv_at hl 0 rfl) ?_
  refine lv_iconst (v := 1) F.1 F.2.1 dX7_widest_4 (by decide) ?_
  refine lv_icmp_lt (tgt := 58) F.1 F.2.1 dX7_widest_5 (by decide) (fun c1 => ?_) (fun c1 => ?_)
  · refine lv_bipush (v := (-6)) F.1 F.2.1 dX7_widest_58 (by decide) ?_
    exact w_iret F hr hlocks hP hS dX7_widest_60 ⟨by rw [← hW, show k = 0 from Nat.eq_zero_of_not_pos (fun q => nI_ge (a := 0) (b := 1) (by decide) (by decide) (by have := i_nlt (nI_le q (by omega)); exact absurd c1 this))]; rfl, (A_pad hnx hkn hn80 h0 hhi h7 h8 hv0 hv1 hc0), fun j hj => sf0 j (by omega)⟩
  · obtain ⟨k, rfl⟩ : ∃ k1, k = k1 + 1 := ⟨k - 1, by have : 1 ≤ k := Nat.pos_of_ne_zero (fun q => c1 (by rw [q]; decide)); omega⟩
    have hW2 : (if (T_roll 20 (T_begin (nI (k + 1)) f) 0).1 11 = 4 then nI (k + 1) else T_wide f k) = T_wide f 60 := hW
    refine lv_aload_n F.1 F.2.1 dX7_widest_8 rfl (lv_at hl 1 rfl) ?_
    refine gf_X7_41 F hP (by omega) hc0.1 (v := .ref (ad (o + 169))) rfl dX7_widest_9 ?_
    refine lv_iload_n F.1 F.2.1 dX7_widest_12 rfl (lv_at hl 0 rfl) ?_
    refine w_callv F hP hS (c_X1_begin l D Y ad N hI _ (o + 169) (by omega) (ft0 5) (ft0 6) (ft0 7) (ft0 8) (ft0 9) (ft0 10) (ft0 11) (ft0 12) (ft0 13) gt0 htr0 (nI (k + 1))) (cwVm 1 F.2.2.2.2.1 (fun _ h => h) mw_266 mw_525 mw_264 mw_265 mw_30 rfl rfl ydX1_begin ⟨by decide, by decide⟩) (by omega) htr0 rfl rfl hl.1 rfl (Nat.le_of_ble_eq_true rfl) dX7_widest_13 ⟨Nat.zero_le _, Nat.zero_le _⟩ (fun K1 H locs hq1 hP hS => ?_)
    rw [hp_begin (f := f)] at hq1
    have htr1 : K1 (o + 169) = hpR (T_begin (nI (k + 1)) f) 0 := by rw [hq1]; exact va_up_self _ _ _
    have sf1 : ∀ j, j ≠ o + 169 → K1 j = C j := fun j hj => (show K1 j = K0 j by rw [hq1, va_up_ne _ _ hj]).trans (sf0 j hj)
    have hc1 := cls_trial hc htr1 sf1
    have hnow1 : isState Y ad K1 (o + 1) f (GG 0) := isState_same hnow (fun j a z => sf1 j (by omega))
    refine lv_aload_n F.1 F.2.1 dX7_widest_16 rfl (lv_at hl 1 rfl) ?_
    refine gf_X7_41 F hP (by omega) hc1.1 (v := .ref (ad (o + 169))) rfl dX7_widest_17 ?_
    refine lv_bipush (v := 20) F.1 F.2.1 dX7_widest_20 (by decide) ?_
    refine lv_aload_n F.1 F.2.1 dX7_widest_22 rfl (lv_at hl 1 rfl) ?_
    refine gf_X7_10 F hP (by omega) hc1.1 (v := .ref (ad (o + 1))) rfl dX7_widest_23 ?_
    refine gf_X7_70 F hP (by omega) hnow1.1 (v := .ref (ad ((o + 1) + 3))) rfl dX7_widest_26 ?_
    refine lv_aload_n F.1 F.2.1 dX7_widest_29 rfl (lv_at hl 1 rfl) ?_
    refine gf_X7_10 F hP (by omega) hc1.1 (v := .ref (ad (o + 1))) rfl dX7_widest_30 ?_
    refine gf_X7_45 F hP (by omega) hnow1.1 (v := .ref (ad ((o + 1) + 1))) rfl dX7_widest_33 ?_
    refine w_callv F hP hS (cx_X1_rollOver l D Y ad N hI _ (o + 169) (by omega) (T_begin (nI (k + 1)) f) 0 htr1 B 20 20 (o + 1 + 3) (o + 1 + 1) (by omega) (by omega) (by omega) (by omega) (by omega) (by omega) (isStair_row hnow1.2.2.1 (begin_out (by omega)) (fun q a z => begin_out (by omega))) (isSett_row hnow1.2.1 (fun q a => begin_out (by omega))) (okS_row hok.1 (fun q hq => begin_out (by omega))) (okH_begin _ hB0 hok.1) rfl rfl) (cwVm 3 F.2.2.2.2.1 (fun _ h => h) mw_294 mw_512 mw_292 mw_293 mw_30 rfl rfl ydX1_rollOver ⟨by decide, by decide⟩) (by omega) htr1 rfl rfl hl.1 rfl (Nat.le_of_ble_eq_true rfl) dX7_widest_36 ⟨Nat.zero_le _, Nat.zero_le _⟩ (fun K2 H locs hq2 hP hS => ?_)
    have htr2 : K2 (o + 169) = hpR ((T_roll 20 (T_begin (nI (k + 1)) f) 0).1) ((T_roll 20 (T_begin (nI (k + 1)) f) 0).2) := by rw [hq2]; exact va_up_self _ _ _
    have sf2 : ∀ j, j ≠ o + 169 → K2 j = C j := fun j hj => (show K2 j = K1 j by rw [hq2, va_up_ne _ _ hj]).trans (sf1 j hj)
    have hc2 := cls_trial hc htr2 sf2
    have hnow2 : isState Y ad K2 (o + 1) f (GG 0) := isState_same hnow (fun j a z => sf2 j (by omega))
    refine lv_aload_n F.1 F.2.1 dX7_widest_39 rfl (lv_at hl 1 rfl) ?_
    refine gf_X7_41 F hP (by omega) hc2.1 (v := .ref (ad (o + 169))) rfl dX7_widest_40 ?_
    refine gf_X7_156 F hP (by omega) htr2 (v := .int (((T_roll 20 (T_begin (nI (k + 1)) f) 0).1) 11)) rfl dX7_widest_43 ?_
    refine lv_iconst (v := 4) F.1 F.2.1 dX7_widest_46 (by decide) ?_
    refine lv_icmp_ne (tgt := 52) F.1 F.2.1 dX7_widest_47 (by decide) (fun c2 => ?_) (fun c2 => ?_)
    · refine lv_iinc (v := (nI (k + 1)) + (-1)) (lv' := [(1, .int ((nI (k + 1)) + (-1))), (0, .ref (ad o))]) F.1 F.2.1 dX7_widest_52 hl (k := 0) rfl rfl (by decide) rfl (fun ls hl => ?_)
      refine lv_goto (tgt := 3) F.1 F.2.1 dX7_widest_55 (by decide) ?_
      rw [if_neg c2] at hW2
      exact ih _ (by omega) _ _ _ _ ⟨k, _, _, rfl, by omega, (by rw [← nI_dec k]; exact lv_sub hl [0, 1] rfl), htr2, sf2, hW2⟩ hP hS
    · refine lv_iload_n F.1 F.2.1 dX7_widest_50 rfl (lv_at hl 0 rfl) ?_
      exact w_iret F hr hlocks hP hS dX7_widest_51 ⟨by rw [if_pos c2] at hW2; exact hW2, (A_pad hnx hkn hn80 h0 hhi h7 h8 hv0 hv1 hc2), fun j hj => sf2 j (by omega)⟩
set_option maxRecDepth 20000 in
set_option maxHeartbeats 4000000 in
/-- does it pass after some taps -/
theorem c_X7_passesAfterTaps (l : Launch) (D : va_G) (Y : Nat → ClassId) (ad : Nat → Nat) (N : Nat) (hI : wI ad N) (C : Nat → va_E) (o : Nat) (hh : o + 170 ≤ N) (f : Nat → Int32) (hs : Nat → Nat → Int32) (kn : Nat) (sl : Nat → Nat → Int32) (sv : Nat → Int32) (pd : Nat → Int32) (n : Nat) (hA : clsA Y ad C o f hs kn sl sv pd n) (t : Nat) (ht : t ≤ 20) (x : Int32) (h5 : f 5 = 1) (B : Int) (hok : okRow B f) (hBb : B + 2000 ≤ 900000000) (hB0 : 0 ≤ B) : Met l yX7_passesAfterTaps (wm yX7_passesAfterTaps cX7_passesAfterTaps 4 (some .boolean)) { frames := 5, cells := 0, slots := 0, locals := 108 } (wPc D Y ad N [.ref (ad o), .int (nI t), .int (x)] C) (wQi D ad N (fun r C' => (r = if (T_roll 20 (T_taps x f t) 0).1 11 = 4 then 1 else 0) ∧ clsA Y ad C' o f hs kn sl sv pd n ∧ ∀ j, j < o ∨ o + 170 ≤ j → C' j = C j)) 0 0 (wA ad N) := by
  obtain ⟨FF, GG, nx, fl, hc, hnx, hkn, hn80, h0, hhi, h7, h8, hv0, hv1⟩ := id hA
  have hnow : isState Y ad C (o + 1) f (GG 0) := by have q := hc.2.2.2.2.2.2.2 0 (by decide); rw [h0] at q; exact q
  obtain ⟨ft, gt, htr⟩ := hc.2.2.2.2.2.2.1
  refine wMet RX7 rfl (by decide +kernel) (Nat.le_of_ble_eq_true rfl) (lv := [(0, .ref (ad o)), (1, .int (nI t)), (2, .int (x))]) rfl ?_
  intro p e s m below meth c ls F hr hlocks hP hl
  have hS : va_S (wA ad N) s.heap s.heap [] := va_S.rf
  refine lv_aload_n F.1 F.2.1 dX7_passesAfterTaps_0 rfl (lv_at hl 0 rfl) ?_
  refine gf_X7_41 F hP (by omega) hc.1 (v := .ref (ad (o + 169))) rfl dX7_passesAfterTaps_1 ?_
  refine lv_aload_n F.1 F.2.1 dX7_passesAfterTaps_4 rfl (lv_at hl 0 rfl) ?_
  refine gf_X7_10 F hP (by omega) hc.1 (v := .ref (ad (o + 1))) rfl dX7_passesAfterTaps_5 ?_
  refine gf_X7_111 F hP (by omega) hnow.1 (v := .ref (ad ((o + 1) + 10))) rfl dX7_passesAfterTaps_8 ?_
  refine w_callv F hP hS (c_X1_copyFrom l D Y ad N hI _ (o + 169) (by omega) (ft 5) (ft 6) (ft 7) (ft 8) (ft 9) (ft 10) (ft 11) (ft 12) (ft 13) gt htr (o + 1 + 10) (by omega) (by omega) (f 5) (f 6) (f 7) (f 8) (f 9) (f 10) (f 11) (f 12) (f 13) (GG 0) hnow.2.2.2.1 hok.2.1) (cwVm 1 F.2.2.2.2.1 (fun _ h => h) mw_150 mw_511 mw_148 mw_149 mw_30 rfl rfl ydX1_copyFrom ⟨by decide, by decide⟩) (by omega) htr rfl rfl hl.1 rfl (Nat.le_of_ble_eq_true rfl) dX7_passesAfterTaps_11 ⟨Nat.zero_le _, Nat.zero_le _⟩ (fun K1 H locs hq1 hP hS => ?_)
  have htr1 : K1 (o + 169) = hpR f (GG 0) := by rw [hq1]; exact va_up_self _ _ _
  have sf1 : ∀ j, j ≠ o + 169 → K1 j = C j := fun j hj => (show K1 j = C j by rw [hq1, va_up_ne _ _ hj]).trans ((fun _ _ => rfl) j hj)
  have hc1 := cls_trial hc htr1 sf1
  have hnow1 : isState Y ad K1 (o + 1) f (GG 0) := isState_same hnow (fun j a z => sf1 j (by omega))
  refine lv_iconst (v := 0) F.1 F.2.1 dX7_passesAfterTaps_14 (by decide) ?_
  refine lv_istore_n (lv' := [(3, .int (0)), (0, .ref (ad o)), (1, .int (nI t)), (2, .int (x))]) F.1 F.2.1 dX7_passesAfterTaps_15 rfl hl (by decide) rfl (fun ls hl => ?_)
  refine w_loop (Inv := fun j ls C' => ∃ k : Nat, j = t - k ∧ k ≤ t ∧ lv_has ls 4 [(3, .int (nI k)), (0, .ref (ad o)), (1, .int (nI t)), (2, .int x)] ∧ C' (o + 169) = hpR (T_taps x f k) (GG 0) ∧ (∀ j, j ≠ o + 169 → C' j = C j)) ?_ t ⟨0, rfl, Nat.zero_le _, lv_sub hl [0, 1, 2, 3] rfl, htr1, sf1⟩ hP hS
  intro j ih H locs ls K0 hInv hP hS
  obtain ⟨k, hj, hkt, hl, htr0, sf0⟩ := hInv
  have hc0 := cls_trial hc htr0 sf0
  have hnow0 : isState Y ad K0 (o + 1) f (GG 0) := isState_same hnow (fun j a z => sf0 j (by omega))
  refine lv_iload_n F.1 F.2.1 dX7_passesAfterTaps_16 rfl (lv_at hl 0 rfl) ?_
  refine lv_iload_n F.1 F.2.1 dX7_passesAfterTaps_17 rfl (lv_at hl 2 rfl) ?_
  refine lv_icmp_ge (tgt := 46) F.1 F.2.1 dX7_passesAfterTaps_18 (by decide) (fun c1 => ?_) (fun c1 => ?_)
  · obtain rfl : k = t := Nat.le_antisymm hkt (Nat.le_of_not_lt (fun q => nI_ge q (by omega) c1))
    refine lv_aload_n F.1 F.2.1 dX7_passesAfterTaps_46 rfl (lv_at hl 1 rfl) ?_
    refine gf_X7_41 F hP (by omega) hc0.1 (v := .ref (ad (o + 169))) rfl dX7_passesAfterTaps_47 ?_
    refine lv_bipush (v := 20) F.1 F.2.1 dX7_passesAfterTaps_50 (by decide) ?_
    refine lv_aload_n F.1 F.2.1 dX7_passesAfterTaps_52 rfl (lv_at hl 1 rfl) ?_
    refine gf_X7_10 F hP (by omega) hc0.1 (v := .ref (ad (o + 1))) rfl dX7_passesAfterTaps_53 ?_
    refine gf_X7_70 F hP (by omega) hnow0.1 (v := .ref (ad ((o + 1) + 3))) rfl dX7_passesAfterTaps_56 ?_
    refine lv_aload_n F.1 F.2.1 dX7_passesAfterTaps_59 rfl (lv_at hl 1 rfl) ?_
    refine gf_X7_10 F hP (by omega) hc0.1 (v := .ref (ad (o + 1))) rfl dX7_passesAfterTaps_60 ?_
    refine gf_X7_45 F hP (by omega) hnow0.1 (v := .ref (ad ((o + 1) + 1))) rfl dX7_passesAfterTaps_63 ?_
    refine w_callv F hP hS (cx_X1_rollOver l D Y ad N hI _ (o + 169) (by omega) (T_taps x f k) (GG 0) htr0 (B + 30 * k) 20 20 (o + 1 + 3) (o + 1 + 1) (by omega) (by omega) (by omega) (by omega) (by omega) (by omega) (isStair_row hnow0.2.2.1 (taps_out (by omega) _) (fun q a z => taps_out (by omega) _)) (isSett_row hnow0.2.1 (fun q a => taps_out (by omega) _)) (okS_row hok.1 (fun q hq => taps_out (by omega) _)) (okH_taps x k (by omega) hok.1 (hok.2.2.1 h5)) ((taps_out (by decide) k).trans h5) rfl) (cwVm 3 F.2.2.2.2.1 (fun _ h => h) mw_294 mw_512 mw_292 mw_293 mw_30 rfl rfl ydX1_rollOver ⟨by decide, by decide⟩) (by omega) htr0 rfl rfl hl.1 rfl (Nat.le_of_ble_eq_true rfl) dX7_passesAfterTaps_66 ⟨Nat.zero_le _, Nat.zero_le _⟩ (fun K2 H locs hq2 hP hS => ?_)
    have htr2 : K2 (o + 169) = hpR ((T_roll 20 (T_taps x f k) (GG 0)).1) ((T_roll 20 (T_taps x f k) (GG 0)).2) := by rw [hq2]; exact va_up_self _ _ _
    have sf2 : ∀ j, j ≠ o + 169 → K2 j = C j := fun j hj => (show K2 j = K0 j by rw [hq2, va_up_ne _ _ hj]).trans (sf0 j hj)
    have hc2 := cls_trial hc htr2 sf2
    have hnow2 : isState Y ad K2 (o + 1) f (GG 0) := isState_same hnow (fun j a z => sf2 j (by omega))
    refine lv_aload_n F.1 F.2.1 dX7_passesAfterTaps_69 rfl (lv_at hl 1 rfl) ?_
    refine gf_X7_41 F hP (by omega) hc2.1 (v := .ref (ad (o + 169))) rfl dX7_passesAfterTaps_70 ?_
    refine gf_X7_156 F hP (by omega) htr2 (v := .int (((T_roll 20 (T_taps x f k) (GG 0)).1) 11)) rfl dX7_passesAfterTaps_73 ?_
    refine lv_iconst (v := 4) F.1 F.2.1 dX7_passesAfterTaps_76 (by decide) ?_
    refine lv_icmp_ne (tgt := 84) F.1 F.2.1 dX7_passesAfterTaps_77 (by decide) (fun c2 => ?_) (fun c2 => ?_)
    · refine lv_iconst (v := 0) F.1 F.2.1 dX7_passesAfterTaps_84 (by decide) ?_
      exact w_zret F hr hlocks hP hS (Or.inl rfl) dX7_passesAfterTaps_85 ⟨by rw [show (T_roll 20 (T_taps x f k) 0).1 11 = (T_roll 20 (T_taps x f k) (GG 0)).1 11 from congrFun (roll_g 20 (g := 0) (g' := GG 0)) 11]; exact (if_neg c2).symm, (A_pad hnx hkn hn80 h0 hhi h7 h8 hv0 hv1 hc2), fun j hj => sf2 j (by omega)⟩
    · refine lv_iconst (v := 1) F.1 F.2.1 dX7_passesAfterTaps_80 (by decide) ?_
      refine lv_goto (tgt := 85) F.1 F.2.1 dX7_passesAfterTaps_81 (by decide) ?_
      exact w_zret F hr hlocks hP hS (Or.inr rfl) dX7_passesAfterTaps_85 ⟨by rw [show (T_roll 20 (T_taps x f k) 0).1 11 = (T_roll 20 (T_taps x f k) (GG 0)).1 11 from congrFun (roll_g 20 (g := 0) (g' := GG 0)) 11]; exact (if_pos c2).symm, (A_pad hnx hkn hn80 h0 hhi h7 h8 hv0 hv1 hc2), fun j hj => sf2 j (by omega)⟩
  · refine lv_aload_n F.1 F.2.1 dX7_passesAfterTaps_21 rfl (lv_at hl 1 rfl) ?_
    refine gf_X7_41 F hP (by omega) hc0.1 (v := .ref (ad (o + 169))) rfl dX7_passesAfterTaps_22 ?_
    refine lv_iload_n F.1 F.2.1 dX7_passesAfterTaps_25 rfl (lv_at hl 3 rfl) ?_
    refine lv_aload_n F.1 F.2.1 dX7_passesAfterTaps_26 rfl (lv_at hl 1 rfl) ?_
    refine gf_X7_10 F hP (by omega) hc0.1 (v := .ref (ad (o + 1))) rfl dX7_passesAfterTaps_27 ?_
    refine gf_X7_45 F hP (by omega) hnow0.1 (v := .ref (ad ((o + 1) + 1))) rfl dX7_passesAfterTaps_30 ?_
    refine lv_iconst (v := 3) F.1 F.2.1 dX7_passesAfterTaps_33 (by decide) ?_
    refine w_calli F hP hS (cx_X4_value l D Y ad N hI _ (o + 1 + 1) (by omega) f hnow0.2.1 3 3 (by decide) rfl) (cwVm 1 F.2.2.2.2.1 (fun _ h => h) mw_172 mw_483 mw_170 mw_171 mw_38 rfl rfl ydX4_value ⟨by decide, by decide⟩) (by omega) hnow0.2.1.1 rfl rfl hl.1 rfl (Nat.le_of_ble_eq_true rfl) dX7_passesAfterTaps_34 ⟨Nat.zero_le _, Nat.zero_le _⟩ (fun r C2 H locs hq hP hS => ?_)
    obtain ⟨hq1, hq2⟩ := hq; rw [hq1] at hP; subst hq2
    have hkt2 : k < t := Nat.lt_of_not_le (fun q => c1 (nI_le q (by omega)))
    refine w_callv F hP hS (c_X1_takeTap l D Y ad N hI _ (o + 169) (by omega) ((T_taps x f k) 5) ((T_taps x f k) 6) ((T_taps x f k) 7) ((T_taps x f k) 8) ((T_taps x f k) 9) ((T_taps x f k) 10) ((T_taps x f k) 11) ((T_taps x f k) 12) ((T_taps x f k) 13) (GG 0) htr0 x (f 3)) (cwVm 2 F.2.2.2.2.1 (fun _ h => h) mw_409 mw_538 mw_407 mw_408 mw_30 rfl rfl ydX1_takeTap ⟨by decide, by decide⟩) (by omega) htr0 rfl rfl hl.1 rfl (Nat.le_of_ble_eq_true rfl) dX7_passesAfterTaps_37 ⟨Nat.zero_le _, Nat.zero_le _⟩ (fun K2 H locs hq2 hP hS => ?_)
    rw [← taps_out (x := x) (f := f) (q := 3) (by decide) k] at hq2
    have htr2 : K2 (o + 169) = hpR (T_taps x f (k + 1)) (GG 0) := by rw [hq2]; exact va_up_self _ _ _
    have sf2 : ∀ j, j ≠ o + 169 → K2 j = C j := fun j hj => (show K2 j = K0 j by rw [hq2, va_up_ne _ _ hj]).trans (sf0 j hj)
    have hc2 := cls_trial hc htr2 sf2
    have hnow2 : isState Y ad K2 (o + 1) f (GG 0) := isState_same hnow (fun j a z => sf2 j (by omega))
    refine lv_iinc (v := (nI k) + 1) (lv' := [(3, .int ((nI k) + 1)), (0, .ref (ad o)), (1, .int (nI t)), (2, .int (x))]) F.1 F.2.1 dX7_passesAfterTaps_40 hl (k := 0) rfl rfl (by decide) rfl (fun ls hl => ?_)
    refine lv_goto (tgt := 16) F.1 F.2.1 dX7_passesAfterTaps_43 (by decide) ?_
    exact ih _ (by omega) _ _ _ _ ⟨k + 1, rfl, by omega, (by rw [nI_succ]; exact lv_sub hl [0, 1, 2, 3] rfl), htr2, sf2⟩ hP hS
set_option maxRecDepth 20000 in
set_option maxHeartbeats 4000000 in
/-- how many taps save it -/
theorem c_X7_saves (l : Launch) (D : va_G) (Y : Nat → ClassId) (ad : Nat → Nat) (N : Nat) (hI : wI ad N) (C : Nat → va_E) (o : Nat) (hh : o + 170 ≤ N) (f : Nat → Int32) (hs : Nat → Nat → Int32) (kn : Nat) (sl : Nat → Nat → Int32) (sv : Nat → Int32) (pd : Nat → Int32) (n : Nat) (hA : clsA Y ad C o f hs kn sl sv pd n) (x : Int32) (B : Int) (hok : okRow B f) (hBb : B + 2000 ≤ 900000000) (hB0 : 0 ≤ B) : Met l yX7_saves (wm yX7_saves cX7_saves 4 (some .int)) { frames := 6, cells := 0, slots := 0, locals := 131 } (wPc D Y ad N [.ref (ad o), .int (x)] C) (wQi D ad N (fun r C' => r = T_svs f x ∧ clsA Y ad C' o f hs kn sl sv pd n ∧ ∀ j, j < o ∨ o + 170 ≤ j → C' j = C j)) 0 0 (wA ad N) := by
  obtain ⟨FF, GG, nx, fl, hc, hnx, hkn, hn80, h0, hhi, h7, h8, hv0, hv1⟩ := id hA
  have hnow : isState Y ad C (o + 1) f (GG 0) := by have q := hc.2.2.2.2.2.2.2 0 (by decide); rw [h0] at q; exact q
  obtain ⟨ft, gt, htr⟩ := hc.2.2.2.2.2.2.1
  refine wMet RX7 rfl (by decide +kernel) (Nat.le_of_ble_eq_true rfl) (lv := [(0, .ref (ad o)), (1, .int (x))]) rfl ?_
  intro p e s m below meth c ls F hr hlocks hP hl
  have hS : va_S (wA ad N) s.heap s.heap [] := va_S.rf
  refine lv_aload_n F.1 F.2.1 dX7_saves_0 rfl (lv_at hl 0 rfl) ?_
  refine gf_X7_10 F hP (by omega) hc.1 (v := .ref (ad (o + 1))) rfl dX7_saves_1 ?_
  refine lv_iload_n F.1 F.2.1 dX7_saves_4 rfl (lv_at hl 1 rfl) ?_
  refine w_calli F hP hS (c_X6_tapError l D Y ad N hI _ (o + 1) (by omega) f (GG 0) hnow x hok.2.1) (cwVm 1 F.2.2.2.2.1 (fun _ h => h) mw_400 mw_397 mw_398 mw_399 mw_15 rfl rfl ydX6_tapError ⟨by decide, by decide⟩) (by omega) hnow.1 rfl rfl hl.1 rfl (Nat.le_of_ble_eq_true rfl) dX7_saves_5 ⟨Nat.zero_le _, Nat.zero_le _⟩ (fun r C2 H locs hq hP hS => ?_)
  obtain ⟨hq1, hq2⟩ := hq; rw [hq1] at hP; subst hq2
  refine lv_istore_n (lv' := [(2, .int (T_te x f)), (0, .ref (ad o)), (1, .int (x))]) F.1 F.2.1 dX7_saves_8 rfl hl (by decide) rfl (fun ls hl => ?_)
  refine lv_iload_n F.1 F.2.1 dX7_saves_9 rfl (lv_at hl 0 rfl) ?_
  refine lv_if_eq (tgt := 15) F.1 F.2.1 dX7_saves_10 (by decide) (fun c1 => ?_) (fun c1 => ?_)
  · refine lv_iconst (v := 0) F.1 F.2.1 dX7_saves_15 (by decide) ?_
    refine lv_istore_n (lv' := [(3, .int (0)), (2, .int (T_te x f)), (0, .ref (ad o)), (1, .int (x))]) F.1 F.2.1 dX7_saves_16 rfl hl (by decide) rfl (fun ls hl => ?_)
    obtain ⟨hx, h5, h11⟩ := te_0 c1
    refine w_loop (Inv := fun j ls C' => ∃ t : Nat, j = 21 - t ∧ t ≤ 21 ∧ lv_has ls 4 [(3, .int (nI t)), (0, .ref (ad o)), (1, .int x)] ∧ clsA Y ad C' o f hs kn sl sv pd n ∧ (∀ j, j < o ∨ o + 170 ≤ j → C' j = C j) ∧ T_svl x f (21 - t) t = T_svl x f 21 0) ?_ 21 ⟨0, rfl, by decide, lv_sub hl [0, 2, 3] rfl, hA, fun _ _ => rfl, rfl⟩ hP hS
    intro j ih H locs ls K0 hInv hP hS
    obtain ⟨t, hj, ht, hl, hA0, fr0, hW⟩ := hInv
    clear hnow hv1 hv0 h8 h7 hhi h0 hn80 hkn hnx hc htr ft gt
    obtain ⟨FF, GG, nx, fl, hc, hnx, hkn, hn80, h0, hhi, h7, h8, hv0, hv1⟩ := id hA0
    refine lv_iload_n F.1 F.2.1 dX7_saves_17 rfl (lv_at hl 0 rfl) ?_
    refine lv_bipush (v := 20) F.1 F.2.1 dX7_saves_18 (by decide) ?_
    refine lv_icmp_gt (tgt := 40) F.1 F.2.1 dX7_saves_20 (by decide) (fun c2 => ?_) (fun c2 => ?_)
    · refine lv_bipush (v := (-6)) F.1 F.2.1 dX7_saves_40 (by decide) ?_
      exact w_iret F hr hlocks hP hS dX7_saves_42 ⟨by unfold T_svs; rw [if_pos c1, ← hW, show 21 - t = 0 from by have : 20 < t := Nat.lt_of_not_le (fun q => nI_le q (by decide) |> fun a => i_nle c2 a); omega]; rfl, hA0, fr0⟩
    · have ht2 : t ≤ 20 := Nat.le_of_not_lt (fun q => c2 (nI_lt (a := 20) q (by omega)))
      have hW2 : (if (T_roll 20 (T_taps x f t) 0).1 11 = 4 then nI t else T_svl x f (20 - t) (t + 1)) = T_svl x f 21 0 := by rw [show 21 - t = 20 - t + 1 by omega] at hW; exact hW
      refine lv_aload_n F.1 F.2.1 dX7_saves_23 rfl (lv_at hl 1 rfl) ?_
      refine lv_iload_n F.1 F.2.1 dX7_saves_24 rfl (lv_at hl 0 rfl) ?_
      refine lv_iload_n F.1 F.2.1 dX7_saves_25 rfl (lv_at hl 2 rfl) ?_
      have hA0 : clsA Y ad K0 o f hs kn sl sv pd n := (A_pad hnx hkn hn80 h0 hhi h7 h8 hv0 hv1 hc)
      refine w_calli F hP hS (c_X7_passesAfterTaps l D Y ad N hI _ o hh f hs kn sl sv pd n hA0 t (by omega) x h5 B hok hBb hB0) (cwVm 2 F.2.2.2.2.1 (fun _ h => h) mw_537 mw_534 mw_535 mw_536 mw_2 rfl rfl ydX7_passesAfterTaps ⟨by decide, by decide⟩) (by omega) hc.1 rfl rfl hl.1 rfl (Nat.le_of_ble_eq_true rfl) dX7_saves_26 ⟨Nat.zero_le _, Nat.zero_le _⟩ (fun r K1 H locs hq hP hS => ?_)
      obtain ⟨hbrr3, hA1, fr1⟩ := hq; generalize r = rr3 at hbrr3 ⊢
      have fr2 : ∀ j, j < o ∨ o + 170 ≤ j → K1 j = C j := fun j hj => (fr1 j hj).trans (fr0 j hj)
      refine lv_if_eq (tgt := 34) F.1 F.2.1 dX7_saves_29 (by decide) (fun c4 => ?_) (fun c4 => ?_)
      · refine lv_iinc (v := (nI t) + 1) (lv' := [(3, .int ((nI t) + 1)), (0, .ref (ad o)), (1, .int (x))]) F.1 F.2.1 dX7_saves_34 hl (k := 0) rfl rfl (by decide) rfl (fun ls hl => ?_)
        refine lv_goto (tgt := 17) F.1 F.2.1 dX7_saves_37 (by decide) ?_
        rw [if_neg (b_f hbrr3 c4)] at hW2
        exact ih _ (by omega) _ _ _ _ ⟨t + 1, rfl, by omega, (by rw [nI_succ]; exact lv_sub hl [0, 1, 2] rfl), hA1, fr2, (by rw [show 21 - (t + 1) = 20 - t by omega]; exact hW2)⟩ hP hS
      · refine lv_iload_n F.1 F.2.1 dX7_saves_32 rfl (lv_at hl 0 rfl) ?_
        exact w_iret F hr hlocks hP hS dX7_saves_33 ⟨by unfold T_svs; rw [if_pos c1, ← hW2, if_pos (b_t hbrr3 c4)], hA1, fr2⟩
  · refine lv_iload_n F.1 F.2.1 dX7_saves_13 rfl (lv_at hl 0 rfl) ?_
    exact w_iret F hr hlocks hP hS dX7_saves_14 ⟨by unfold T_svs; rw [if_neg c1], hA, fun _ _ => rfl⟩
set_option maxRecDepth 20000 in
set_option maxHeartbeats 4000000 in
/-- traced -/
theorem c_X7_traced (l : Launch) (D : va_G) (Y : Nat → ClassId) (ad : Nat → Nat) (N : Nat) (hI : wI ad N) (C : Nat → va_E) (o : Nat) (hh : o + 170 ≤ N) (f : Nat → Int32) (hs : Nat → Nat → Int32) (kn : Nat) (sl : Nat → Nat → Int32) (sv : Nat → Int32) (pd : Nat → Int32) (n : Nat) (hA : clsA Y ad C o f hs kn sl sv pd n) (x y z : Int32) (B : Int) (hok : okRow B f) (hBb : B + 2000 ≤ 900000000) (hB0 : 0 ≤ B) : Met l yX7_traced (wm yX7_traced cX7_traced 4 (some .int)) { frames := 5, cells := 0, slots := 0, locals := 108 } (wPc D Y ad N [.ref (ad o), .int (x), .int (y), .int (z)] C) (wQi D ad N (fun r C' => r = T_trc f x y z ∧ clsA Y ad C' o f hs kn sl sv pd n ∧ ∀ j, j < o ∨ o + 170 ≤ j → C' j = C j)) 0 0 (wA ad N) := by
  obtain ⟨FF, GG, nx, fl, hc, hnx, hkn, hn80, h0, hhi, h7, h8, hv0, hv1⟩ := id hA
  have hnow : isState Y ad C (o + 1) f (GG 0) := by have q := hc.2.2.2.2.2.2.2 0 (by decide); rw [h0] at q; exact q
  obtain ⟨ft, gt, htr⟩ := hc.2.2.2.2.2.2.1
  refine wMet RX7 rfl (by decide +kernel) (Nat.le_of_ble_eq_true rfl) (lv := [(0, .ref (ad o)), (1, .int (x)), (2, .int (y)), (3, .int (z))]) rfl ?_
  intro p e s m below meth c ls F hr hlocks hP hl
  have hS : va_S (wA ad N) s.heap s.heap [] := va_S.rf
  refine lv_aload_n F.1 F.2.1 dX7_traced_0 rfl (lv_at hl 0 rfl) ?_
  refine gf_X7_10 F hP (by omega) hc.1 (v := .ref (ad (o + 1))) rfl dX7_traced_1 ?_
  refine gf_X7_70 F hP (by omega) hnow.1 (v := .ref (ad ((o + 1) + 3))) rfl dX7_traced_4 ?_
  refine lv_iload_n F.1 F.2.1 dX7_traced_7 rfl (lv_at hl 2 rfl) ?_
  refine w_calli F hP hS (c_X5_has l D Y ad N hI _ (o + 1 + 3) (by omega) _ _ hnow.2.2.1.1 y) (cwVm 1 F.2.2.2.2.1 (fun _ h => h) mw_234 mw_231 mw_232 mw_233 mw_42 rfl rfl ydX5_has ⟨by decide, by decide⟩) (by omega) hnow.2.2.1.1 rfl rfl hl.1 rfl (Nat.le_of_ble_eq_true rfl) dX7_traced_8 ⟨Nat.zero_le _, Nat.zero_le _⟩ (fun r C2 H locs hq hP hS => ?_)
  obtain ⟨hq1, hbrr1⟩ := hq; rw [hq1] at hP; generalize r = rr1 at hbrr1 ⊢
  refine lv_if_ne (tgt := 16) F.1 F.2.1 dX7_traced_11 (by decide) (fun c2 => ?_) (fun c2 => ?_)
  · refine lv_iload_n F.1 F.2.1 dX7_traced_16 rfl (lv_at hl 1 rfl) ?_
    refine w_calls F hP hS (c_X1_allows l D Y ad N hI _ x) (cwSm 1 F.2.2.2.2.1 (fun _ h => h) mw_258 mw_256 mw_257 mw_30 rfl rfl ydX1_allows ⟨by decide, by decide⟩) rfl hl.1 rfl (Nat.le_of_ble_eq_true rfl) dX7_traced_17 ⟨Nat.zero_le _, Nat.zero_le _⟩ (fun r C2 H locs hq hP hS => ?_)
    obtain ⟨hq1, hbrr3⟩ := hq; rw [hq1] at hP; generalize r = rr3 at hbrr3 ⊢
    refine lv_if_eq (tgt := 32) F.1 F.2.1 dX7_traced_20 (by decide) (fun c4 => ?_) (fun c4 => ?_)
    · refine lv_bipush (v := (-2)) F.1 F.2.1 dX7_traced_32 (by decide) ?_
      exact w_iret F hr hlocks hP hS dX7_traced_34 ⟨by unfold T_trc; rw [if_pos (b_t hbrr1 c2), if_neg (fun q => (b_f hbrr3 c4) q.1)], hA, fun _ _ => rfl⟩
    · refine lv_iload_n F.1 F.2.1 dX7_traced_23 rfl (lv_at hl 3 rfl) ?_
      refine lv_if_lt (tgt := 32) F.1 F.2.1 dX7_traced_24 (by decide) (fun c5 => ?_) (fun c5 => ?_)
      · refine lv_bipush (v := (-2)) F.1 F.2.1 dX7_traced_32 (by decide) ?_
        exact w_iret F hr hlocks hP hS dX7_traced_34 ⟨by unfold T_trc; rw [if_pos (b_t hbrr1 c2), if_neg (fun q => i_nle c5 q.2.1)], hA, fun _ _ => rfl⟩
      · refine lv_iload_n F.1 F.2.1 dX7_traced_27 rfl (lv_at hl 3 rfl) ?_
        refine lv_iconst (v := 2) F.1 F.2.1 dX7_traced_28 (by decide) ?_
        refine lv_icmp_le (tgt := 35) F.1 F.2.1 dX7_traced_29 (by decide) (fun c6 => ?_) (fun c6 => ?_)
        · obtain ⟨ky, hky, ey, ecy⟩ := lt_x (m := 20) (by decide) (b_t hbrr1 c2).1 (b_t hbrr1 c2).2.2
          refine lv_aload_n F.1 F.2.1 dX7_traced_35 rfl (lv_at hl 0 rfl) ?_
          refine gf_X7_41 F hP (by omega) hc.1 (v := .ref (ad (o + 169))) rfl dX7_traced_36 ?_
          refine lv_iload_n F.1 F.2.1 dX7_traced_39 rfl (lv_at hl 1 rfl) ?_
          refine w_callv F hP hS (c_X1_begin l D Y ad N hI _ (o + 169) (by omega) (ft 5) (ft 6) (ft 7) (ft 8) (ft 9) (ft 10) (ft 11) (ft 12) (ft 13) gt htr x) (cwVm 1 F.2.2.2.2.1 (fun _ h => h) mw_266 mw_525 mw_264 mw_265 mw_30 rfl rfl ydX1_begin ⟨by decide, by decide⟩) (by omega) htr rfl rfl hl.1 rfl (Nat.le_of_ble_eq_true rfl) dX7_traced_40 ⟨Nat.zero_le _, Nat.zero_le _⟩ (fun K1 H locs hq1 hP hS => ?_)
          rw [hp_begin (f := f)] at hq1
          have htr1 : K1 (o + 169) = hpR (T_begin x f) 0 := by rw [hq1]; exact va_up_self _ _ _
          have sf1 : ∀ j, j ≠ o + 169 → K1 j = C j := fun j hj => (show K1 j = C j by rw [hq1, va_up_ne _ _ hj]).trans ((fun _ _ => rfl) j hj)
          have hc1 := cls_trial hc htr1 sf1
          have hnow1 : isState Y ad K1 (o + 1) f (GG 0) := isState_same hnow (fun j a z => sf1 j (by omega))
          refine lv_aload_n F.1 F.2.1 dX7_traced_43 rfl (lv_at hl 0 rfl) ?_
          refine gf_X7_41 F hP (by omega) hc1.1 (v := .ref (ad (o + 169))) rfl dX7_traced_44 ?_
          refine lv_iload_n F.1 F.2.1 dX7_traced_47 rfl (lv_at hl 2 rfl) ?_
          refine lv_iconst (v := 1) F.1 F.2.1 dX7_traced_48 (by decide) ?_
          refine lv_iadd F.1 F.2.1 dX7_traced_49 ?_
          refine lv_aload_n F.1 F.2.1 dX7_traced_50 rfl (lv_at hl 0 rfl) ?_
          refine gf_X7_10 F hP (by omega) hc1.1 (v := .ref (ad (o + 1))) rfl dX7_traced_51 ?_
          refine gf_X7_70 F hP (by omega) hnow1.1 (v := .ref (ad ((o + 1) + 3))) rfl dX7_traced_54 ?_
          refine lv_aload_n F.1 F.2.1 dX7_traced_57 rfl (lv_at hl 0 rfl) ?_
          refine gf_X7_10 F hP (by omega) hc1.1 (v := .ref (ad (o + 1))) rfl dX7_traced_58 ?_
          refine gf_X7_45 F hP (by omega) hnow1.1 (v := .ref (ad ((o + 1) + 1))) rfl dX7_traced_61 ?_
          refine w_callv F hP hS (cx_X1_rollOver l D Y ad N hI _ (o + 169) (by omega) (T_begin x f) 0 htr1 B (y + 1) (ky + 1) (o + 1 + 3) (o + 1 + 1) (by omega) (by omega) (by omega) (by omega) (by omega) (by omega) (isStair_row hnow1.2.2.1 (begin_out (by omega)) (fun q a z => begin_out (by omega))) (isSett_row hnow1.2.1 (fun q a => begin_out (by omega))) (okS_row hok.1 (fun q hq => begin_out (by omega))) (okH_begin _ hB0 hok.1) rfl (by rw [ey, nI_succ])) (cwVm 3 F.2.2.2.2.1 (fun _ h => h) mw_294 mw_512 mw_292 mw_293 mw_30 rfl rfl ydX1_rollOver ⟨by decide, by decide⟩) (by omega) htr1 rfl rfl hl.1 rfl (Nat.le_of_ble_eq_true rfl) dX7_traced_64 ⟨Nat.zero_le _, Nat.zero_le _⟩ (fun K2 H locs hq2 hP hS => ?_)
          have htr2 : K2 (o + 169) = hpR ((T_roll (ky + 1) (T_begin x f) 0).1) ((T_roll (ky + 1) (T_begin x f) 0).2) := by rw [hq2]; exact va_up_self _ _ _
          have sf2 : ∀ j, j ≠ o + 169 → K2 j = C j := fun j hj => (show K2 j = K1 j by rw [hq2, va_up_ne _ _ hj]).trans (sf1 j hj)
          have hc2 := cls_trial hc htr2 sf2
          have hnow2 : isState Y ad K2 (o + 1) f (GG 0) := isState_same hnow (fun j a z => sf2 j (by omega))
          refine lv_aload_n F.1 F.2.1 dX7_traced_67 rfl (lv_at hl 0 rfl) ?_
          refine gf_X7_41 F hP (by omega) hc2.1 (v := .ref (ad (o + 169))) rfl dX7_traced_68 ?_
          refine gf_X7_156 F hP (by omega) htr2 (v := .int (((T_roll (ky + 1) (T_begin x f) 0).1) 11)) rfl dX7_traced_71 ?_
          refine lv_if_eq (tgt := 91) F.1 F.2.1 dX7_traced_74 (by decide) (fun c7 => ?_) (fun c7 => ?_)
          · refine lv_aload_n F.1 F.2.1 dX7_traced_91 rfl (lv_at hl 0 rfl) ?_
            refine gf_X7_41 F hP (by omega) hc2.1 (v := .ref (ad (o + 169))) rfl dX7_traced_92 ?_
            refine lv_iload_n F.1 F.2.1 dX7_traced_95 rfl (lv_at hl 3 rfl) ?_
            refine lv_iconst (v := 1) F.1 F.2.1 dX7_traced_96 (by decide) ?_
            refine lv_iadd F.1 F.2.1 dX7_traced_97 ?_
            refine w_calls F hP hS (c_X7_aboutHoop l D Y ad N hI _ (o + 169) (by omega) ((T_roll (ky + 1) (T_begin x f) 0).1) ((T_roll (ky + 1) (T_begin x f) 0).2) htr2 (z + 1)) (cwSm 2 F.2.2.2.2.1 (fun _ h => h) mw_457 mw_455 mw_456 mw_2 rfl rfl ydX7_aboutHoop ⟨by decide, by decide⟩) rfl hl.1 rfl (Nat.le_of_ble_eq_true rfl) dX7_traced_98 ⟨Nat.zero_le _, Nat.zero_le _⟩ (fun r C2 H locs hq hP hS => ?_)
            obtain ⟨hq1, hq2⟩ := hq; rw [hq1] at hP; subst hq2
            exact w_iret F hr hlocks hP hS dX7_traced_101 ⟨by unfold T_trc; rw [if_pos (b_t hbrr1 c2), if_pos ⟨b_t hbrr3 c4, i_le c5, c6⟩, ecy, if_pos (Or.inl c7)], (A_pad hnx hkn hn80 h0 hhi h7 h8 hv0 hv1 hc2), fun j hj => sf2 j (by omega)⟩
          · refine lv_aload_n F.1 F.2.1 dX7_traced_77 rfl (lv_at hl 0 rfl) ?_
            refine gf_X7_41 F hP (by omega) hc2.1 (v := .ref (ad (o + 169))) rfl dX7_traced_78 ?_
            refine gf_X7_156 F hP (by omega) htr2 (v := .int (((T_roll (ky + 1) (T_begin x f) 0).1) 11)) rfl dX7_traced_81 ?_
            refine lv_iconst (v := 4) F.1 F.2.1 dX7_traced_84 (by decide) ?_
            refine lv_icmp_eq (tgt := 91) F.1 F.2.1 dX7_traced_85 (by decide) (fun c8 => ?_) (fun c8 => ?_)
            · refine lv_aload_n F.1 F.2.1 dX7_traced_91 rfl (lv_at hl 0 rfl) ?_
              refine gf_X7_41 F hP (by omega) hc2.1 (v := .ref (ad (o + 169))) rfl dX7_traced_92 ?_
              refine lv_iload_n F.1 F.2.1 dX7_traced_95 rfl (lv_at hl 3 rfl) ?_
              refine lv_iconst (v := 1) F.1 F.2.1 dX7_traced_96 (by decide) ?_
              refine lv_iadd F.1 F.2.1 dX7_traced_97 ?_
              refine w_calls F hP hS (c_X7_aboutHoop l D Y ad N hI _ (o + 169) (by omega) ((T_roll (ky + 1) (T_begin x f) 0).1) ((T_roll (ky + 1) (T_begin x f) 0).2) htr2 (z + 1)) (cwSm 2 F.2.2.2.2.1 (fun _ h => h) mw_457 mw_455 mw_456 mw_2 rfl rfl ydX7_aboutHoop ⟨by decide, by decide⟩) rfl hl.1 rfl (Nat.le_of_ble_eq_true rfl) dX7_traced_98 ⟨Nat.zero_le _, Nat.zero_le _⟩ (fun r C2 H locs hq hP hS => ?_)
              obtain ⟨hq1, hq2⟩ := hq; rw [hq1] at hP; subst hq2
              exact w_iret F hr hlocks hP hS dX7_traced_101 ⟨by unfold T_trc; rw [if_pos (b_t hbrr1 c2), if_pos ⟨b_t hbrr3 c4, i_le c5, c6⟩, ecy, if_pos (Or.inr c8)], (A_pad hnx hkn hn80 h0 hhi h7 h8 hv0 hv1 hc2), fun j hj => sf2 j (by omega)⟩
            · refine lv_bipush (v := (-6)) F.1 F.2.1 dX7_traced_88 (by decide) ?_
              exact w_iret F hr hlocks hP hS dX7_traced_90 ⟨by unfold T_trc; rw [if_pos (b_t hbrr1 c2), if_pos ⟨b_t hbrr3 c4, i_le c5, c6⟩, ecy, if_neg (fun q => q.elim c7 c8)], (A_pad hnx hkn hn80 h0 hhi h7 h8 hv0 hv1 hc2), fun j hj => sf2 j (by omega)⟩
        · refine lv_bipush (v := (-2)) F.1 F.2.1 dX7_traced_32 (by decide) ?_
          exact w_iret F hr hlocks hP hS dX7_traced_34 ⟨by unfold T_trc; rw [if_pos (b_t hbrr1 c2), if_neg (fun q => c6 q.2.2)], hA, fun _ _ => rfl⟩
  · refine lv_iconst (v := (-1)) F.1 F.2.1 dX7_traced_14 (by decide) ?_
    exact w_iret F hr hlocks hP hS dX7_traced_15 ⟨by unfold T_trc; rw [if_neg (b_f hbrr1 c2)], hA, fun _ _ => rfl⟩

