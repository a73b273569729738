/-! p25: isWidest: the widest hoop, and traces of one of some size -/
/-- one stair, the same settings -/
def agS (g f : Nat → Int32) : Prop := (∀ q, q < 5 → g q = f q) ∧ ∀ k, kindAt g k = kindAt f k ∧ valAt g k = valAt f k
theorem agS_ag {g f : Nat → Int32} (h : ag g f) : agS g f := ⟨fun q hq => h.1 q (by omega), h.2⟩
theorem agS_tr {g f d : Nat → Int32} (h : agS g f) (h2 : agS f d) : agS g d := ⟨fun q hq => (h.1 q hq).trans (h2.1 q hq), fun k => ⟨(h.2 k).1.trans (h2.2 k).1, (h.2 k).2.trans (h2.2 k).2⟩⟩
theorem upd_up {g f : Nat → Int32} {n : Nat} {v : Int32} (h : ∀ q, q < n → g q = f q) : ∀ q, q < n + 1 → upd g n v q = upd f n v q := by
  intro q hq
  by_cases e : q = n
  · rw [e, upd_s, upd_s]
  · rw [upd_n e, upd_n e]; exact h q (by omega)
theorem ag_begin (x : Int32) {g f : Nat → Int32} (h : agS g f) : ag (T_begin x g) (T_begin x f) := by
  refine ⟨?_, fun k => ⟨?_, ?_⟩⟩
  · unfold T_begin
    exact upd_up (upd_up (upd_up (upd_up (upd_up (upd_up (upd_up (upd_up (upd_up h.1))))))))
  · unfold kindAt
    rw [begin_out (by omega), begin_out (by omega)]; exact (h.2 k).1
  · unfold valAt
    rw [begin_out (by omega), begin_out (by omega)]; exact (h.2 k).2
theorem ag_runb {x : Int32} {g : Nat → Int32} : ag (T_run x g) (T_begin x g) := ag_of (fun q hq => by unfold T_run; rw [upd_n (by omega)])
theorem ag_run (x : Int32) {g f : Nat → Int32} (h : agS g f) : ag (T_run x g) (T_begin x f) := ag_trans ag_runb (ag_begin x h)
theorem agS_run {x : Int32} {g : Nat → Int32} : agS (T_run x g) g := by
  refine agS_tr (agS_ag ag_runb) ⟨fun q hq => begin_out (by omega), fun k => ⟨?_, ?_⟩⟩
  · unfold kindAt
    rw [begin_out (by omega)]
  · unfold valAt
    rw [begin_out (by omega)]
theorem roll_snoc (n : Nat) : ∀ (f : Nat → Int32) (g : Int32), T_roll (n + 1) f g = (if (T_roll n f g).1 11 = 0 then T_step (T_roll n f g).1 (T_roll n f g).2 else T_roll n f g) := by
  induction n with
  | zero => intro f g; rfl
  | succ n ih =>
    intro f g
    by_cases a : f 11 = 0
    · have e1 : T_roll (n + 1 + 1) f g = T_roll (n + 1) (T_step f g).1 (T_step f g).2 := if_pos a
      have e2 : T_roll (n + 1) f g = T_roll n (T_step f g).1 (T_step f g).2 := if_pos a
      rw [e1, e2]; exact ih _ _
    · rw [roll_over _ a, roll_over _ a, if_neg a]
theorem wi_next {B : Int} {q b : Nat → Int32} {i n : Nat} (hok : okRow B q) (hB : B + 25 ≤ 900000000) (h5 : q 5 = 1) (h11 : q 11 = 0) (h10 : q 10 = nI i) (h4 : q 4 = nI n) (hin : i < n) (hn : n ≤ 20) (hag : ag q (T_roll i b 0).1) :
    ag (T_rolled 1 q 0) (T_roll (i + 1) b 0).1 ∧ ((T_roll (i + 1) b 0).1 11 = 0 ∨ (T_roll (i + 1) b 0).1 11 = 1 ∨ (T_roll (i + 1) b 0).1 11 = 2 ∨ (T_roll (i + 1) b 0).1 11 = 3 ∨ (T_roll (i + 1) b 0).1 11 = 4) ∧ ((T_roll (i + 1) b 0).1 11 = 0 → (T_roll (i + 1) b 0).1 10 = nI (i + 1)) ∧ ((T_roll (i + 1) b 0).1 11 = 4 → (T_roll (i + 1) b 0).1 10 = nI n ∧ n = i + 1) := by
  have e1 : T_roll (i + 1) b 0 = T_step (T_roll i b 0).1 (T_roll i b 0).2 := by
    rw [roll_snoc, if_pos (by rw [← hag.1 11 (by decide)]; exact h11)]
  have a1 : ag (T_step q 0).1 (T_roll (i + 1) b 0).1 := by
    rw [e1, show (T_step (T_roll i b 0).1 (T_roll i b 0).2).1 = (T_step (T_roll i b 0).1 0).1 from step_g]
    exact (ag_step 0 hag).1
  obtain ⟨s1, s2, s3, s4⟩ := step_at (g := 0) h10 h4 hin hn h11
  have b11 : (T_roll (i + 1) b 0).1 11 = T_hw q i := (a1.1 11 (by decide)).symm.trans s1
  have b10 : (T_roll (i + 1) b 0).1 10 = (if T_hw q i = 0 ∨ T_hw q i = 4 then nI (i + 1) else q 10) := by
    rw [← a1.1 10 (by decide), s3, h10, ← nI_succ]
  refine ⟨ag_trans (rolled1_ag hok hB h5 h11) a1, by rw [b11]; exact hw_in q i, fun z => ?_, fun z => ?_⟩
  · rw [b11] at z
    rw [b10, if_pos (Or.inl z)]
  · rw [b11] at z
    have en : n = i + 1 := by
      unfold T_hw at z
      by_cases a : (T_meet i q).2 = 0
      · rw [if_pos a] at z
        by_cases c : q 0 ≤ iabs ((T_meet i q).1 8)
        · rw [if_pos c] at z; exact absurd z (by decide)
        · rw [if_neg c] at z
          by_cases d : q 10 + 1 < q 4
          · rw [if_pos d] at z; exact absurd z (by decide)
          · rw [h10, h4, ← nI_succ] at d
            have : ¬ i + 1 < n := fun w => d (nI_lt w (by omega))
            omega
      · rw [if_neg a] at z
        rcases T_meet_how i q with w | w | w
        · exact absurd w a
        · rw [w] at z; exact absurd z (by decide)
        · rw [w] at z; exact absurd z (by decide)
    rw [b10, if_pos (Or.inr z), en]
    exact ⟨rfl, rfl⟩
theorem wi_stay {q b : Nat → Int32} {i : Nat} (h11 : ¬ q 11 = 0) (hag : ag q (T_roll i b 0).1) : T_roll (i + 1) b 0 = T_roll i b 0 := by
  rw [roll_snoc, if_neg (by rw [← hag.1 11 (by decide)]; exact h11)]
/-- a trace, of a stair that is the same -/
theorem trc_at {q f : Nat → Int32} {x z : Int32} {i n : Nat} (hS : agS q f) (hx : 1 ≤ x ∧ x ≤ 60) (hz : 0 ≤ z ∧ z ≤ 2) (h4 : f 4 = nI n) (hin : i < n) (hn : n ≤ 20) {S : Nat → Int32} (eS : (T_roll (i + 1) (T_begin x f) 0).1 = S) : T_trc q x (nI i) z = (if S 11 = 0 ∨ S 11 = 4 then T_about S (z + 1) else -6) := by
  have a := (ag_roll (i + 1) (g := 0) (ag_begin x hS)).1
  rw [eS] at a
  unfold T_trc
  rw [if_pos ⟨nI_le (a := 0) (Nat.zero_le i) (by omega), by rw [hS.1 4 (by decide), h4]; exact nI_lt hin (by omega), nI_lt (b := 20) (by omega) (by decide)⟩, if_pos ⟨hx, hz⟩, nI_clamp (by omega), a.1 11 (by decide)]
  by_cases c : S 11 = 0 ∨ S 11 = 4
  · rw [if_pos c, if_pos c]
    unfold T_about
    rw [a.1 6 (by decide), a.1 7 (by decide), a.1 8 (by decide), a.1 9 (by decide), a.1 10 (by decide), a.1 11 (by decide), a.1 12 (by decide), a.1 13 (by decide)]
  · rw [if_neg c, if_neg c]
/-- how far the hoop of some size is, behind i parts -/
def WI (b : Nat → Int32) (n i : Nat) (q : Nat → Int32) : Prop := (q 11 = 0 ∧ q 10 = nI i ∧ ag q (T_roll i b 0).1) ∨ ((q 11 = 1 ∨ q 11 = 2 ∨ q 11 = 3) ∧ ag q (T_roll i b 0).1) ∨ i = n
theorem agS_rolled {B : Int} {q f : Nat → Int32} (hok : okRow B q) (hB : B + 25 ≤ 900000000) (h5 : q 5 = 1) (h11 : q 11 = 0) (h : agS q f) : agS (T_rolled 1 q 0) f := by
  refine agS_tr (agS_ag (rolled1_ag hok hB h5 h11)) (agS_tr ⟨fun z hz => T_step_fr (by omega) (by omega) (by omega) (by omega) (by omega), fun k => ⟨?_, ?_⟩⟩ h)
  · unfold kindAt
    exact T_step_fr (by omega) (by omega) (by omega) (by omega) (by omega)
  · unfold valAt
    exact T_step_fr (by omega) (by omega) (by omega) (by omega) (by omega)
set_option maxRecDepth 20000 in
set_option maxHeartbeats 4000000 in
theorem iw_tail {p : Program} {l : Launch} {e : Env} {s : State} {m : MethodId} {below : List Frame} {meth : Method} {c : Code} {args : Array Value} {D : va_G} {Y : Nat → ClassId} {ad : Nat → Nat} {N : Nat} (hI : wI ad N) (hN : 171 ≤ N) (F : wFix p s m c args cL_isWidest RL 15 D Y ad N) (hr : meth.sig.returnType = some .boolean) (hlocks : meth.locks = false) {C : Nat → va_E} {f g : Nat → Int32} {sl : Nat → Nat → Int32} {sv : Nat → Int32} {hv : Nat → Int32} {B : Int} {H : Heap} {locs : List Loc} (hP : wP D ad N C H) (hS : va_S (wA ad N) s.heap H locs) (hL : kLS Y ad C g (va_up sl 0 f) (upd sv 0 1)) (hH : C 170 = .inl (Y 0, 8, .inl hv)) (hJ : J B f) (hokg : okRow B g) (hB0 : 0 ≤ B) (hB : B + 5000 ≤ 900000000) (hag : agS g f) (h14 : (f 14).toInt ≤ (g 14).toInt ∧ (g 14).toInt ≤ (f 14).toInt + 60) {x : Int32} (hx : 1 ≤ x ∧ x ≤ 60) {n : Nat} (h4 : f 4 = nI n) (hn : n ≤ 20) {du : Int32} (hD : T_wide f 60 = du) {y : Int32} {ls : Array Slot} (hl : lv_has ls 15 [(7, .int y), (6, .int du), (5, .int (f 14)), (4, .int (nI n)), (3, .int (T_wide f 60)), (2, .int x), (1, .ref (ad 170)), (0, .ref (ad 0))]) : W p l e { frames := 7, cells := 0, slots := 0, locals := 151 } s m args below meth c H locs 0 0 (MQ below (wQi D ad N (fun r C' => r = 1 ∧ kLT Y ad C' f (va_up sl 0 f) (upd sv 0 1))) args s 0 0 (wA ad N)) (F0 m 78 ls []) := by
  have h14b := hJ.2.2.2.2.1
  have h14c : 0 ≤ (f 14).toInt := by have a := hJ.2.2.1; have b := hJ.2.2.2.1; have r := rlg_in f; have z : enS f = (f 15).toInt + (f 16).toInt + (f 17).toInt + (f 18).toInt := rfl; omega
  refine lv_aload_n F.1 F.2.1 dL_isWidest_78 rfl (lv_at hl 7 rfl) ?_
  refine lv_iload_n F.1 F.2.1 dL_isWidest_79 rfl (lv_at hl 5 rfl) ?_
  refine w_calli F hP hS (k_hoop l D Y ad N hI hN _ hL x hx hokg (by omega)) (cwVm 1 F.2.2.2.2.1 (fun _ h => h) mw_255 mw_735 mw_253 mw_254 mw_2 rfl rfl ydX7_hoop ⟨by decide, by decide⟩) (by omega) (ls_at hL) rfl rfl hl.1 rfl (Nat.le_of_ble_eq_true rfl) dL_isWidest_80 ⟨Nat.zero_le _, Nat.zero_le _⟩ (fun r1 C1 H locs hq hP hS => ?_)
  obtain ⟨hr1, hL1, hz1⟩ := hq
  have hH1 := hz1.trans hH
  subst hr1
  have hok1 : okRow B (T_run x g) := okRow_run x hB0 hokg
  refine lv_istore (lv' := [(7, .int (g 14 + 1)), (6, .int (du)), (5, .int (f 14)), (4, .int (nI n)), (3, .int (T_wide f 60)), (2, .int (x)), (1, .ref (ad 170)), (0, .ref (ad 0))]) F.1 F.2.1 dL_isWidest_83 hl (by decide) rfl (fun ls hl => ?_)
  refine lv_iload F.1 F.2.1 dL_isWidest_85 (lv_at hl 0 rfl) ?_
  refine lv_if_le (tgt := 94) F.1 F.2.1 dL_isWidest_87 (by decide) (fun c1 => False.elim (il_0 (by have o : (1 : Int32).toInt = 1 := rfl; rw [i_add (by omega) (by omega)]; omega) c1)) (fun c1 => ?_)
  refine lv_iconst (v := 1) F.1 F.2.1 dL_isWidest_90 (by decide) ?_
  refine lv_goto (tgt := 95) F.1 F.2.1 dL_isWidest_91 (by decide) ?_
  refine lv_istore (lv' := [(8, .int (1)), (7, .int (g 14 + 1)), (6, .int (du)), (5, .int (f 14)), (4, .int (nI n)), (3, .int (T_wide f 60)), (2, .int (x)), (1, .ref (ad 170)), (0, .ref (ad 0))]) F.1 F.2.1 dL_isWidest_95 hl (by decide) rfl (fun ls hl => ?_)
  refine lv_iconst (v := 0) F.1 F.2.1 dL_isWidest_97 (by decide) ?_
  refine lv_istore (lv' := [(9, .int (0)), (8, .int (1)), (7, .int (g 14 + 1)), (6, .int (du)), (5, .int (f 14)), (4, .int (nI n)), (3, .int (T_wide f 60)), (2, .int (x)), (1, .ref (ad 170)), (0, .ref (ad 0))]) F.1 F.2.1 dL_isWidest_98 hl (by decide) rfl (fun ls hl => ?_)
  refine w_loop (Inv := fun j ls C' => ∃ (i : Nat) (q : Nat → Int32), j = n - i ∧ i ≤ n ∧ WI (T_begin x f) n i q ∧ okRow (B + 25 * i) q ∧ agS q f ∧ q 5 = 1 ∧ kLS Y ad C' q (va_up sl 0 f) (upd sv 0 1) ∧ C' 170 = .inl (Y 0, 8, .inl hv) ∧ lv_has ls 15 [(9, .int (nI i)), (8, .int 1), (7, .int (g 14 + 1)), (6, .int du), (5, .int (f 14)), (4, .int (nI n)), (3, .int (T_wide f 60)), (2, .int x), (1, .ref (ad 170)), (0, .ref (ad 0))]) ?_ n ⟨0, T_run x g, rfl, Nat.zero_le _, Or.inl ⟨rfl, rfl, ag_run x hag⟩, okRow_mono (by omega) hok1, agS_tr agS_run hag, rfl, hL1, hH1, lv_sub hl [0, 1, 2, 3, 4, 5, 6, 7, 8, 9] rfl⟩ hP hS
  intro j ih H locs ls K0 hInv hP hS
  obtain ⟨i, q, hj, hi, hWI, hokq, hq, hq5, hL, hH, hl⟩ := hInv
  have hq4 : q 4 = nI n := (hq.1 4 (by decide)).trans h4
  refine lv_iload F.1 F.2.1 dL_isWidest_100 (lv_at hl 0 rfl) ?_
  refine lv_iload F.1 F.2.1 dL_isWidest_102 (lv_at hl 5 rfl) ?_
  refine lv_icmp_ge (tgt := 279) F.1 F.2.1 dL_isWidest_104 (by decide) (fun c2 => ?_) (fun c2 => ?_)
  · refine lv_iload F.1 F.2.1 dL_isWidest_279 (lv_at hl 1 rfl) ?_
    refine lv_if_eq (tgt := 314) F.1 F.2.1 dL_isWidest_281 (by decide) (fun c3 => False.elim (by revert c3; decide)) (fun c3 => ?_)
    refine lv_iload_n F.1 F.2.1 dL_isWidest_284 rfl (lv_at hl 6 rfl) ?_
    refine lv_iload F.1 F.2.1 dL_isWidest_285 (lv_at hl 3 rfl) ?_
    refine lv_icmp_ne (tgt := 314) F.1 F.2.1 dL_isWidest_287 (by decide) (fun c4 => False.elim (c4 hD)) (fun c4 => ?_)
    refine lv_aload_n F.1 F.2.1 dL_isWidest_290 rfl (lv_at hl 9 rfl) ?_
    refine lv_iconst (v := 0) F.1 F.2.1 dL_isWidest_291 (by decide) ?_
    refine w_calli F hP hS (k_restore l D Y ad N hI hN _ hL 0 (by decide) (by rw [upd_s]; decide)) (cwVm 1 F.2.2.2.2.1 (fun _ h => h) mw_699 mw_744 mw_697 mw_698 mw_2 rfl rfl ydX7_restore ⟨by decide, by decide⟩) (by omega) (ls_at hL) rfl rfl hl.1 rfl (Nat.le_of_ble_eq_true rfl) dL_isWidest_292 ⟨Nat.zero_le _, Nat.zero_le _⟩ (fun r2 C2 H locs hq hP hS => ?_)
    obtain ⟨hr2, hL2, hz2⟩ := hq
    have hH2 := hz2.trans hH
    have hr2 := hr2.trans (show va_up sl 0 f 0 4 = nI n by rw [va_up_self]; exact h4)
    subst hr2
    rw [va_up_self] at hL2
    refine lv_iload F.1 F.2.1 dL_isWidest_295 (lv_at hl 5 rfl) ?_
    refine lv_icmp_ne (tgt := 314) F.1 F.2.1 dL_isWidest_297 (by decide) (fun c5 => False.elim (c5 rfl)) (fun c5 => ?_)
    refine lv_aload_n F.1 F.2.1 dL_isWidest_300 rfl (lv_at hl 9 rfl) ?_
    refine lv_iconst (v := 1) F.1 F.2.1 dL_isWidest_301 (by decide) ?_
    refine w_calli F hP hS (k_count l D Y ad N hI hN _ hL2 1 (by decide) hJ.1) (cwVm 1 F.2.2.2.2.1 (fun _ h => h) mw_482 mw_716 mw_480 mw_481 mw_2 rfl rfl ydX7_count ⟨by decide, by decide⟩) (by omega) (ls_at hL2) rfl rfl hl.1 rfl (Nat.le_of_ble_eq_true rfl) dL_isWidest_302 ⟨Nat.zero_le _, Nat.zero_le _⟩ (fun r3 C2 H locs hq hP hS => ?_)
    obtain ⟨hw3, hr3⟩ := hq; rw [hw3] at hP
    have hr3 := hr3.trans cn_1
    subst hr3
    refine lv_iload F.1 F.2.1 dL_isWidest_305 (lv_at hl 4 rfl) ?_
    refine lv_icmp_ne (tgt := 314) F.1 F.2.1 dL_isWidest_307 (by decide) (fun c6 => False.elim (c6 rfl)) (fun c6 => ?_)
    refine lv_iconst (v := 1) F.1 F.2.1 dL_isWidest_310 (by decide) ?_
    refine lv_goto (tgt := 315) F.1 F.2.1 dL_isWidest_311 (by decide) ?_
    exact w_zret F hr hlocks hP hS (Or.inr rfl) dL_isWidest_315 ⟨rfl, hL2, _, hH2⟩
  · have hin : i < n := Nat.not_le.mp (fun z => c2 (nI_le z (by omega)))
    obtain ⟨S, eS⟩ : ∃ z, (T_roll (i + 1) (T_begin x f) 0).1 = z := ⟨_, rfl⟩
    rcases hWI with ⟨hq11, hq10, hqa⟩ | ⟨hq3, hqa⟩ | hin2
    · obtain ⟨a2, hSw, hS0, hS4⟩ := wi_next hokq (by omega) hq5 hq11 hq10 hq4 hin hn hqa
      have hok2 : okRow (B + 25 * ((i + 1 : Nat) : Int)) (T_rolled 1 q 0) := okRow_mono (by omega) (okRow_roll (g := 0) 1 (by omega) hokq hq5 hq11)
      have hq2s : agS (T_rolled 1 q 0) f := agS_rolled hokq (by omega) hq5 hq11 hq
      have hq25 : T_rolled 1 q 0 5 = 1 := by rw [(rolled1_ag hokq (by omega) hq5 hq11).1 5 (by decide), T_step_fr (by decide) (by decide) (by decide) (by decide) (by decide), hq5]
      obtain ⟨q2, eq2⟩ : ∃ z, T_rolled 1 q 0 = z := ⟨_, rfl⟩
      rw [eq2] at a2 hok2 hq2s hq25
      rw [eS] at a2 hSw hS0 hS4
      rcases hSw with eS11 | eS11 | eS11 | eS11 | eS11
      · refine lv_iload F.1 F.2.1 dL_isWidest_107 (lv_at hl 1 rfl) ?_
        refine lv_if_eq (tgt := 279) F.1 F.2.1 dL_isWidest_109 (by decide) (fun c7 => False.elim (by revert c7; decide)) (fun c7 => ?_)
        refine lv_aload_n F.1 F.2.1 dL_isWidest_112 rfl (lv_at hl 9 rfl) ?_
        refine lv_iload_n F.1 F.2.1 dL_isWidest_113 rfl (lv_at hl 7 rfl) ?_
        refine lv_iload F.1 F.2.1 dL_isWidest_114 (lv_at hl 0 rfl) ?_
        refine lv_iconst (v := 0) F.1 F.2.1 dL_isWidest_116 (by decide) ?_
        refine w_calli F hP hS (k_traced l D Y ad N hI hN _ hL x (nI i) 0 hokq (by omega) (by omega)) (cwVm 3 F.2.2.2.2.1 (fun _ h => h) mw_546 mw_749 mw_544 mw_545 mw_2 rfl rfl ydX7_traced ⟨by decide, by decide⟩) (by omega) (ls_at hL) rfl rfl hl.1 rfl (Nat.le_of_ble_eq_true rfl) dL_isWidest_117 ⟨Nat.zero_le _, Nat.zero_le _⟩ (fun r2 C2 H locs hq hP hS => ?_)
        obtain ⟨hr2, hL2, hz2⟩ := hq
        have hH2 := hz2.trans hH
        have hr2 := hr2.trans ((trc_at hq hx (by decide) h4 hin hn eS).trans ((if_pos (Or.inl eS11)).trans (show T_about S (0 + 1) = S 7 from ab_1)))
        subst hr2
        refine lv_istore (lv' := [(10, .int (S 7)), (9, .int (nI i)), (8, .int (1)), (7, .int (g 14 + 1)), (6, .int (du)), (5, .int (f 14)), (4, .int (nI n)), (3, .int (T_wide f 60)), (2, .int (x)), (1, .ref (ad 170)), (0, .ref (ad 0))]) F.1 F.2.1 dL_isWidest_120 hl (by decide) rfl (fun ls hl => ?_)
        refine lv_aload_n F.1 F.2.1 dL_isWidest_122 rfl (lv_at hl 10 rfl) ?_
        refine lv_iload_n F.1 F.2.1 dL_isWidest_123 rfl (lv_at hl 8 rfl) ?_
        refine lv_iload F.1 F.2.1 dL_isWidest_124 (lv_at hl 1 rfl) ?_
        refine lv_iconst (v := 1) F.1 F.2.1 dL_isWidest_126 (by decide) ?_
        refine w_calli F hP hS (k_traced l D Y ad N hI hN _ hL2 x (nI i) 1 hokq (by omega) (by omega)) (cwVm 3 F.2.2.2.2.1 (fun _ h => h) mw_546 mw_749 mw_544 mw_545 mw_2 rfl rfl ydX7_traced ⟨by decide, by decide⟩) (by omega) (ls_at hL2) rfl rfl hl.1 rfl (Nat.le_of_ble_eq_true rfl) dL_isWidest_127 ⟨Nat.zero_le _, Nat.zero_le _⟩ (fun r3 C3 H locs hq hP hS => ?_)
        obtain ⟨hr3, hL3, hz3⟩ := hq
        have hH3 := hz3.trans hH2
        have hr3 := hr3.trans ((trc_at hq hx (by decide) h4 hin hn eS).trans ((if_pos (Or.inl eS11)).trans (show T_about S (1 + 1) = S 8 + 500 from ab_2)))
        subst hr3
        refine lv_istore (lv' := [(11, .int (S 8 + 500)), (10, .int (S 7)), (9, .int (nI i)), (8, .int (1)), (7, .int (g 14 + 1)), (6, .int (du)), (5, .int (f 14)), (4, .int (nI n)), (3, .int (T_wide f 60)), (2, .int (x)), (1, .ref (ad 170)), (0, .ref (ad 0))]) F.1 F.2.1 dL_isWidest_130 hl (by decide) rfl (fun ls hl => ?_)
        refine lv_aload_n F.1 F.2.1 dL_isWidest_132 rfl (lv_at hl 11 rfl) ?_
        refine lv_iload_n F.1 F.2.1 dL_isWidest_133 rfl (lv_at hl 9 rfl) ?_
        refine lv_iload F.1 F.2.1 dL_isWidest_134 (lv_at hl 2 rfl) ?_
        refine lv_iconst (v := 2) F.1 F.2.1 dL_isWidest_136 (by decide) ?_
        refine w_calli F hP hS (k_traced l D Y ad N hI hN _ hL3 x (nI i) 2 hokq (by omega) (by omega)) (cwVm 3 F.2.2.2.2.1 (fun _ h => h) mw_546 mw_749 mw_544 mw_545 mw_2 rfl rfl ydX7_traced ⟨by decide, by decide⟩) (by omega) (ls_at hL3) rfl rfl hl.1 rfl (Nat.le_of_ble_eq_true rfl) dL_isWidest_137 ⟨Nat.zero_le _, Nat.zero_le _⟩ (fun r4 C4 H locs hq hP hS => ?_)
        obtain ⟨hr4, hL4, hz4⟩ := hq
        have hH4 := hz4.trans hH3
        have hr4 := hr4.trans ((trc_at hq hx (by decide) h4 hin hn eS).trans ((if_pos (Or.inl eS11)).trans (show T_about S (2 + 1) = S 9 from ab_3)))
        subst hr4
        refine lv_istore (lv' := [(12, .int (S 9)), (11, .int (S 8 + 500)), (10, .int (S 7)), (9, .int (nI i)), (8, .int (1)), (7, .int (g 14 + 1)), (6, .int (du)), (5, .int (f 14)), (4, .int (nI n)), (3, .int (T_wide f 60)), (2, .int (x)), (1, .ref (ad 170)), (0, .ref (ad 0))]) F.1 F.2.1 dL_isWidest_140 hl (by decide) rfl (fun ls hl => ?_)
        refine lv_aload_n F.1 F.2.1 dL_isWidest_142 rfl (lv_at hl 12 rfl) ?_
        refine lv_iconst (v := 5) F.1 F.2.1 dL_isWidest_143 (by decide) ?_
        refine w_calli F hP hS (k_ofHoop l D Y ad N hI hN _ hL4 5) (cwVm 1 F.2.2.2.2.1 (fun _ h => h) mw_454 mw_719 mw_452 mw_453 mw_2 rfl rfl ydX7_ofHoop ⟨by decide, by decide⟩) (by omega) (ls_at hL4) rfl rfl hl.1 rfl (Nat.le_of_ble_eq_true rfl) dL_isWidest_144 ⟨Nat.zero_le _, Nat.zero_le _⟩ (fun r5 C2 H locs hq hP hS => ?_)
        obtain ⟨hw5, hr5⟩ := hq; rw [hw5] at hP
        have hr5 := hr5.trans ((oh_5 hq5).trans hq11)
        subst hr5
        refine lv_if_ne (tgt := 158) F.1 F.2.1 dL_isWidest_147 (by decide) (fun c8 => False.elim (by revert c8; decide)) (fun c8 => ?_)
        refine lv_aload_n F.1 F.2.1 dL_isWidest_150 rfl (lv_at hl 12 rfl) ?_
        refine lv_iconst (v := 1) F.1 F.2.1 dL_isWidest_151 (by decide) ?_
        refine w_calli F hP hS (k_roll l D Y ad N hI hN _ hL4 hq5 hq11 hokq (by omega) (by omega)) (cwVm 1 F.2.2.2.2.1 (fun _ h => h) mw_278 mw_720 mw_276 mw_277 mw_2 rfl rfl ydX7_roll ⟨by decide, by decide⟩) (by omega) (ls_at hL4) rfl rfl hl.1 rfl (Nat.le_of_ble_eq_true rfl) dL_isWidest_152 ⟨Nat.zero_le _, Nat.zero_le _⟩ (fun r6 C6 H locs hq hP hS => ?_)
        obtain ⟨hr6, hL6, hz6⟩ := hq
        have hH6 := hz6.trans hH4
        have hr6 := hr6.trans (show T_rolled 1 q 0 11 = 0 by rw [eq2]; exact (a2.1 11 (by decide)).trans eS11)
        subst hr6
        rw [eq2] at hL6
        refine lv_goto (tgt := 163) F.1 F.2.1 dL_isWidest_155 (by decide) ?_
        refine lv_istore (lv' := [(13, .int (0)), (12, .int (S 9)), (11, .int (S 8 + 500)), (10, .int (S 7)), (9, .int (nI i)), (8, .int (1)), (7, .int (g 14 + 1)), (6, .int (du)), (5, .int (f 14)), (4, .int (nI n)), (3, .int (T_wide f 60)), (2, .int (x)), (1, .ref (ad 170)), (0, .ref (ad 0))]) F.1 F.2.1 dL_isWidest_163 hl (by decide) rfl (fun ls hl => ?_)
        refine lv_iload F.1 F.2.1 dL_isWidest_165 (lv_at hl 0 rfl) ?_
        refine lv_if_eq (tgt := 195) F.1 F.2.1 dL_isWidest_167 (by decide) (fun c9 => ?_) (fun c9 => False.elim (by revert c9; decide))
        refine lv_iconst (v := 1) F.1 F.2.1 dL_isWidest_195 (by decide) ?_
        refine lv_goto (tgt := 200) F.1 F.2.1 dL_isWidest_196 (by decide) ?_
        refine lv_istore (lv' := [(14, .int (1)), (13, .int (0)), (12, .int (S 9)), (11, .int (S 8 + 500)), (10, .int (S 7)), (9, .int (nI i)), (8, .int (1)), (7, .int (g 14 + 1)), (6, .int (du)), (5, .int (f 14)), (4, .int (nI n)), (3, .int (T_wide f 60)), (2, .int (x)), (1, .ref (ad 170)), (0, .ref (ad 0))]) F.1 F.2.1 dL_isWidest_200 hl (by decide) rfl (fun ls hl => ?_)
        refine lv_iload F.1 F.2.1 dL_isWidest_202 (lv_at hl 0 rfl) ?_
        refine lv_if_eq (tgt := 245) F.1 F.2.1 dL_isWidest_204 (by decide) (fun c10 => False.elim (by revert c10; decide)) (fun c10 => ?_)
        refine lv_iload F.1 F.2.1 dL_isWidest_207 (lv_at hl 4 rfl) ?_
        refine lv_aload_n F.1 F.2.1 dL_isWidest_209 rfl (lv_at hl 14 rfl) ?_
        refine lv_iconst (v := 1) F.1 F.2.1 dL_isWidest_210 (by decide) ?_
        refine w_calli F hP hS (k_ofHoop l D Y ad N hI hN _ hL6 1) (cwVm 1 F.2.2.2.2.1 (fun _ h => h) mw_454 mw_719 mw_452 mw_453 mw_2 rfl rfl ydX7_ofHoop ⟨by decide, by decide⟩) (by omega) (ls_at hL6) rfl rfl hl.1 rfl (Nat.le_of_ble_eq_true rfl) dL_isWidest_211 ⟨Nat.zero_le _, Nat.zero_le _⟩ (fun r7 C2 H locs hq hP hS => ?_)
        obtain ⟨hw7, hr7⟩ := hq; rw [hw7] at hP
        have hr7 := hr7.trans ((oh_1 hq25).trans (a2.1 7 (by decide)))
        subst hr7
        refine lv_icmp_ne (tgt := 241) F.1 F.2.1 dL_isWidest_214 (by decide) (fun c11 => False.elim (c11 rfl)) (fun c11 => ?_)
        refine lv_iload F.1 F.2.1 dL_isWidest_217 (lv_at hl 3 rfl) ?_
        refine lv_aload_n F.1 F.2.1 dL_isWidest_219 rfl (lv_at hl 14 rfl) ?_
        refine lv_iconst (v := 2) F.1 F.2.1 dL_isWidest_220 (by decide) ?_
        refine w_calli F hP hS (k_ofHoop l D Y ad N hI hN _ hL6 2) (cwVm 1 F.2.2.2.2.1 (fun _ h => h) mw_454 mw_719 mw_452 mw_453 mw_2 rfl rfl ydX7_ofHoop ⟨by decide, by decide⟩) (by omega) (ls_at hL6) rfl rfl hl.1 rfl (Nat.le_of_ble_eq_true rfl) dL_isWidest_221 ⟨Nat.zero_le _, Nat.zero_le _⟩ (fun r8 C2 H locs hq hP hS => ?_)
        obtain ⟨hw8, hr8⟩ := hq; rw [hw8] at hP
        have hr8 := hr8.trans ((oh_2 hq25).trans (by rw [a2.1 8 (by decide)]))
        subst hr8
        refine lv_icmp_ne (tgt := 241) F.1 F.2.1 dL_isWidest_224 (by decide) (fun c12 => False.elim (c12 rfl)) (fun c12 => ?_)
        refine lv_iload F.1 F.2.1 dL_isWidest_227 (lv_at hl 2 rfl) ?_
        refine lv_aload_n F.1 F.2.1 dL_isWidest_229 rfl (lv_at hl 14 rfl) ?_
        refine lv_iconst (v := 3) F.1 F.2.1 dL_isWidest_230 (by decide) ?_
        refine w_calli F hP hS (k_ofHoop l D Y ad N hI hN _ hL6 3) (cwVm 1 F.2.2.2.2.1 (fun _ h => h) mw_454 mw_719 mw_452 mw_453 mw_2 rfl rfl ydX7_ofHoop ⟨by decide, by decide⟩) (by omega) (ls_at hL6) rfl rfl hl.1 rfl (Nat.le_of_ble_eq_true rfl) dL_isWidest_231 ⟨Nat.zero_le _, Nat.zero_le _⟩ (fun r9 C2 H locs hq hP hS => ?_)
        obtain ⟨hw9, hr9⟩ := hq; rw [hw9] at hP
        have hr9 := hr9.trans ((oh_3 hq25).trans (a2.1 9 (by decide)))
        subst hr9
        refine lv_icmp_ne (tgt := 241) F.1 F.2.1 dL_isWidest_234 (by decide) (fun c13 => False.elim (c13 rfl)) (fun c13 => ?_)
        refine lv_iconst (v := 1) F.1 F.2.1 dL_isWidest_237 (by decide) ?_
        refine lv_goto (tgt := 271) F.1 F.2.1 dL_isWidest_238 (by decide) ?_
        refine lv_istore (lv' := [(8, .int (1)), (14, .int (1)), (13, .int (0)), (12, .int (S 9)), (11, .int (S 8 + 500)), (10, .int (S 7)), (9, .int (nI i)), (7, .int (g 14 + 1)), (6, .int (du)), (5, .int (f 14)), (4, .int (nI n)), (3, .int (T_wide f 60)), (2, .int (x)), (1, .ref (ad 170)), (0, .ref (ad 0))]) F.1 F.2.1 dL_isWidest_271 hl (by decide) rfl (fun ls hl => ?_)
        refine lv_iinc (v := (nI i) + 1) (lv' := [(9, .int ((nI i) + 1)), (8, .int (1)), (14, .int (1)), (13, .int (0)), (12, .int (S 9)), (11, .int (S 8 + 500)), (10, .int (S 7)), (7, .int (g 14 + 1)), (6, .int (du)), (5, .int (f 14)), (4, .int (nI n)), (3, .int (T_wide f 60)), (2, .int (x)), (1, .ref (ad 170)), (0, .ref (ad 0))]) F.1 F.2.1 dL_isWidest_273 hl (k := 6) rfl rfl (by decide) rfl (fun ls hl => ?_)
        refine lv_goto (tgt := 100) F.1 F.2.1 dL_isWidest_276 (by decide) ?_
        exact ih _ (by omega) _ _ _ _ ⟨i + 1, q2, rfl, hin, Or.inl ⟨(a2.1 11 (by decide)).trans eS11, (a2.1 10 (by decide)).trans (hS0 eS11), (by rw [eS]; exact a2)⟩, hok2, hq2s, hq25, hL6, hH6, (by rw [nI_succ]; exact lv_sub hl [0, 1, 7, 8, 9, 10, 11, 12, 13, 14] rfl)⟩ hP hS
      · refine lv_iload F.1 F.2.1 dL_isWidest_107 (lv_at hl 1 rfl) ?_
        refine lv_if_eq (tgt := 279) F.1 F.2.1 dL_isWidest_109 (by decide) (fun c14 => False.elim (by revert c14; decide)) (fun c14 => ?_)
        refine lv_aload_n F.1 F.2.1 dL_isWidest_112 rfl (lv_at hl 9 rfl) ?_
        refine lv_iload_n F.1 F.2.1 dL_isWidest_113 rfl (lv_at hl 7 rfl) ?_
        refine lv_iload F.1 F.2.1 dL_isWidest_114 (lv_at hl 0 rfl) ?_
        refine lv_iconst (v := 0) F.1 F.2.1 dL_isWidest_116 (by decide) ?_
        refine w_calli F hP hS (k_traced l D Y ad N hI hN _ hL x (nI i) 0 hokq (by omega) (by omega)) (cwVm 3 F.2.2.2.2.1 (fun _ h => h) mw_546 mw_749 mw_544 mw_545 mw_2 rfl rfl ydX7_traced ⟨by decide, by decide⟩) (by omega) (ls_at hL) rfl rfl hl.1 rfl (Nat.le_of_ble_eq_true rfl) dL_isWidest_117 ⟨Nat.zero_le _, Nat.zero_le _⟩ (fun r2 C2 H locs hq hP hS => ?_)
        obtain ⟨hr2, hL2, hz2⟩ := hq
        have hH2 := hz2.trans hH
        have hr2 := hr2.trans ((trc_at hq hx (by decide) h4 hin hn eS).trans (if_neg (by rw [eS11]; decide)))
        subst hr2
        refine lv_istore (lv' := [(10, .int ((-6))), (9, .int (nI i)), (8, .int (1)), (7, .int (g 14 + 1)), (6, .int (du)), (5, .int (f 14)), (4, .int (nI n)), (3, .int (T_wide f 60)), (2, .int (x)), (1, .ref (ad 170)), (0, .ref (ad 0))]) F.1 F.2.1 dL_isWidest_120 hl (by decide) rfl (fun ls hl => ?_)
        refine lv_aload_n F.1 F.2.1 dL_isWidest_122 rfl (lv_at hl 10 rfl) ?_
        refine lv_iload_n F.1 F.2.1 dL_isWidest_123 rfl (lv_at hl 8 rfl) ?_
        refine lv_iload F.1 F.2.1 dL_isWidest_124 (lv_at hl 1 rfl) ?_
        refine lv_iconst (v := 1) F.1 F.2.1 dL_isWidest_126 (by decide) ?_
        refine w_calli F hP hS (k_traced l D Y ad N hI hN _ hL2 x (nI i) 1 hokq (by omega) (by omega)) (cwVm 3 F.2.2.2.2.1 (fun _ h => h) mw_546 mw_749 mw_544 mw_545 mw_2 rfl rfl ydX7_traced ⟨by decide, by decide⟩) (by omega) (ls_at hL2) rfl rfl hl.1 rfl (Nat.le_of_ble_eq_true rfl) dL_isWidest_127 ⟨Nat.zero_le _, Nat.zero_le _⟩ (fun r3 C3 H locs hq hP hS => ?_)
        obtain ⟨hr3, hL3, hz3⟩ := hq
        have hH3 := hz3.trans hH2
        have hr3 := hr3.trans ((trc_at hq hx (by decide) h4 hin hn eS).trans (if_neg (by rw [eS11]; decide)))
        subst hr3
        refine lv_istore (lv' := [(11, .int ((-6))), (10, .int ((-6))), (9, .int (nI i)), (8, .int (1)), (7, .int (g 14 + 1)), (6, .int (du)), (5, .int (f 14)), (4, .int (nI n)), (3, .int (T_wide f 60)), (2, .int (x)), (1, .ref (ad 170)), (0, .ref (ad 0))]) F.1 F.2.1 dL_isWidest_130 hl (by decide) rfl (fun ls hl => ?_)
        refine lv_aload_n F.1 F.2.1 dL_isWidest_132 rfl (lv_at hl 11 rfl) ?_
        refine lv_iload_n F.1 F.2.1 dL_isWidest_133 rfl (lv_at hl 9 rfl) ?_
        refine lv_iload F.1 F.2.1 dL_isWidest_134 (lv_at hl 2 rfl) ?_
        refine lv_iconst (v := 2) F.1 F.2.1 dL_isWidest_136 (by decide) ?_
        refine w_calli F hP hS (k_traced l D Y ad N hI hN _ hL3 x (nI i) 2 hokq (by omega) (by omega)) (cwVm 3 F.2.2.2.2.1 (fun _ h => h) mw_546 mw_749 mw_544 mw_545 mw_2 rfl rfl ydX7_traced ⟨by decide, by decide⟩) (by omega) (ls_at hL3) rfl rfl hl.1 rfl (Nat.le_of_ble_eq_true rfl) dL_isWidest_137 ⟨Nat.zero_le _, Nat.zero_le _⟩ (fun r4 C4 H locs hq hP hS => ?_)
        obtain ⟨hr4, hL4, hz4⟩ := hq
        have hH4 := hz4.trans hH3
        have hr4 := hr4.trans ((trc_at hq hx (by decide) h4 hin hn eS).trans (if_neg (by rw [eS11]; decide)))
        subst hr4
        refine lv_istore (lv' := [(12, .int ((-6))), (11, .int ((-6))), (10, .int ((-6))), (9, .int (nI i)), (8, .int (1)), (7, .int (g 14 + 1)), (6, .int (du)), (5, .int (f 14)), (4, .int (nI n)), (3, .int (T_wide f 60)), (2, .int (x)), (1, .ref (ad 170)), (0, .ref (ad 0))]) F.1 F.2.1 dL_isWidest_140 hl (by decide) rfl (fun ls hl => ?_)
        refine lv_aload_n F.1 F.2.1 dL_isWidest_142 rfl (lv_at hl 12 rfl) ?_
        refine lv_iconst (v := 5) F.1 F.2.1 dL_isWidest_143 (by decide) ?_
        refine w_calli F hP hS (k_ofHoop l D Y ad N hI hN _ hL4 5) (cwVm 1 F.2.2.2.2.1 (fun _ h => h) mw_454 mw_719 mw_452 mw_453 mw_2 rfl rfl ydX7_ofHoop ⟨by decide, by decide⟩) (by omega) (ls_at hL4) rfl rfl hl.1 rfl (Nat.le_of_ble_eq_true rfl) dL_isWidest_144 ⟨Nat.zero_le _, Nat.zero_le _⟩ (fun r5 C2 H locs hq hP hS => ?_)
        obtain ⟨hw5, hr5⟩ := hq; rw [hw5] at hP
        have hr5 := hr5.trans ((oh_5 hq5).trans hq11)
        subst hr5
        refine lv_if_ne (tgt := 158) F.1 F.2.1 dL_isWidest_147 (by decide) (fun c15 => False.elim (by revert c15; decide)) (fun c15 => ?_)
        refine lv_aload_n F.1 F.2.1 dL_isWidest_150 rfl (lv_at hl 12 rfl) ?_
        refine lv_iconst (v := 1) F.1 F.2.1 dL_isWidest_151 (by decide) ?_
        refine w_calli F hP hS (k_roll l D Y ad N hI hN _ hL4 hq5 hq11 hokq (by omega) (by omega)) (cwVm 1 F.2.2.2.2.1 (fun _ h => h) mw_278 mw_720 mw_276 mw_277 mw_2 rfl rfl ydX7_roll ⟨by decide, by decide⟩) (by omega) (ls_at hL4) rfl rfl hl.1 rfl (Nat.le_of_ble_eq_true rfl) dL_isWidest_152 ⟨Nat.zero_le _, Nat.zero_le _⟩ (fun r6 C6 H locs hq hP hS => ?_)
        obtain ⟨hr6, hL6, hz6⟩ := hq
        have hH6 := hz6.trans hH4
        have hr6 := hr6.trans (show T_rolled 1 q 0 11 = 1 by rw [eq2]; exact (a2.1 11 (by decide)).trans eS11)
        subst hr6
        rw [eq2] at hL6
        refine lv_goto (tgt := 163) F.1 F.2.1 dL_isWidest_155 (by decide) ?_
        refine lv_istore (lv' := [(13, .int (1)), (12, .int ((-6))), (11, .int ((-6))), (10, .int ((-6))), (9, .int (nI i)), (8, .int (1)), (7, .int (g 14 + 1)), (6, .int (du)), (5, .int (f 14)), (4, .int (nI n)), (3, .int (T_wide f 60)), (2, .int (x)), (1, .ref (ad 170)), (0, .ref (ad 0))]) F.1 F.2.1 dL_isWidest_163 hl (by decide) rfl (fun ls hl => ?_)
        refine lv_iload F.1 F.2.1 dL_isWidest_165 (lv_at hl 0 rfl) ?_
        refine lv_if_eq (tgt := 195) F.1 F.2.1 dL_isWidest_167 (by decide) (fun c16 => False.elim (by revert c16; decide)) (fun c16 => ?_)
        refine lv_iload F.1 F.2.1 dL_isWidest_170 (lv_at hl 0 rfl) ?_
        refine lv_iconst (v := 4) F.1 F.2.1 dL_isWidest_172 (by decide) ?_
        refine lv_icmp_ne (tgt := 199) F.1 F.2.1 dL_isWidest_173 (by decide) (fun c17 => ?_) (fun c17 => False.elim (by revert c17; decide))
        refine lv_iconst (v := 0) F.1 F.2.1 dL_isWidest_199 (by decide) ?_
        refine lv_istore (lv' := [(14, .int (0)), (13, .int (1)), (12, .int ((-6))), (11, .int ((-6))), (10, .int ((-6))), (9, .int (nI i)), (8, .int (1)), (7, .int (g 14 + 1)), (6, .int (du)), (5, .int (f 14)), (4, .int (nI n)), (3, .int (T_wide f 60)), (2, .int (x)), (1, .ref (ad 170)), (0, .ref (ad 0))]) F.1 F.2.1 dL_isWidest_200 hl (by decide) rfl (fun ls hl => ?_)
        refine lv_iload F.1 F.2.1 dL_isWidest_202 (lv_at hl 0 rfl) ?_
        refine lv_if_eq (tgt := 245) F.1 F.2.1 dL_isWidest_204 (by decide) (fun c18 => ?_) (fun c18 => False.elim (by revert c18; decide))
        refine lv_iload F.1 F.2.1 dL_isWidest_245 (lv_at hl 4 rfl) ?_
        refine lv_bipush (v := (-6)) F.1 F.2.1 dL_isWidest_247 (by decide) ?_
        refine lv_icmp_ne (tgt := 270) F.1 F.2.1 dL_isWidest_249 (by decide) (fun c19 => False.elim (by revert c19; decide)) (fun c19 => ?_)
        refine lv_iload F.1 F.2.1 dL_isWidest_252 (lv_at hl 3 rfl) ?_
        refine lv_bipush (v := (-6)) F.1 F.2.1 dL_isWidest_254 (by decide) ?_
        refine lv_icmp_ne (tgt := 270) F.1 F.2.1 dL_isWidest_256 (by decide) (fun c20 => False.elim (by revert c20; decide)) (fun c20 => ?_)
        refine lv_iload F.1 F.2.1 dL_isWidest_259 (lv_at hl 2 rfl) ?_
        refine lv_bipush (v := (-6)) F.1 F.2.1 dL_isWidest_261 (by decide) ?_
        refine lv_icmp_ne (tgt := 270) F.1 F.2.1 dL_isWidest_263 (by decide) (fun c21 => False.elim (by revert c21; decide)) (fun c21 => ?_)
        refine lv_iconst (v := 1) F.1 F.2.1 dL_isWidest_266 (by decide) ?_
        refine lv_goto (tgt := 271) F.1 F.2.1 dL_isWidest_267 (by decide) ?_
        refine lv_istore (lv' := [(8, .int (1)), (14, .int (0)), (13, .int (1)), (12, .int ((-6))), (11, .int ((-6))), (10, .int ((-6))), (9, .int (nI i)), (7, .int (g 14 + 1)), (6, .int (du)), (5, .int (f 14)), (4, .int (nI n)), (3, .int (T_wide f 60)), (2, .int (x)), (1, .ref (ad 170)), (0, .ref (ad 0))]) F.1 F.2.1 dL_isWidest_271 hl (by decide) rfl (fun ls hl => ?_)
        refine lv_iinc (v := (nI i) + 1) (lv' := [(9, .int ((nI i) + 1)), (8, .int (1)), (14, .int (0)), (13, .int (1)), (12, .int ((-6))), (11, .int ((-6))), (10, .int ((-6))), (7, .int (g 14 + 1)), (6, .int (du)), (5, .int (f 14)), (4, .int (nI n)), (3, .int (T_wide f 60)), (2, .int (x)), (1, .ref (ad 170)), (0, .ref (ad 0))]) F.1 F.2.1 dL_isWidest_273 hl (k := 6) rfl rfl (by decide) rfl (fun ls hl => ?_)
        refine lv_goto (tgt := 100) F.1 F.2.1 dL_isWidest_276 (by decide) ?_
        exact ih _ (by omega) _ _ _ _ ⟨i + 1, q2, rfl, hin, Or.inr (Or.inl ⟨Or.inl ((a2.1 11 (by decide)).trans eS11), (by rw [eS]; exact a2)⟩), hok2, hq2s, hq25, hL6, hH6, (by rw [nI_succ]; exact lv_sub hl [0, 1, 7, 8, 9, 10, 11, 12, 13, 14] rfl)⟩ hP hS
      · refine lv_iload F.1 F.2.1 dL_isWidest_107 (lv_at hl 1 rfl) ?_
        refine lv_if_eq (tgt := 279) F.1 F.2.1 dL_isWidest_109 (by decide) (fun c22 => False.elim (by revert c22; decide)) (fun c22 => ?_)
        refine lv_aload_n F.1 F.2.1 dL_isWidest_112 rfl (lv_at hl 9 rfl) ?_
        refine lv_iload_n F.1 F.2.1 dL_isWidest_113 rfl (lv_at hl 7 rfl) ?_
        refine lv_iload F.1 F.2.1 dL_isWidest_114 (lv_at hl 0 rfl) ?_
        refine lv_iconst (v := 0) F.1 F.2.1 dL_isWidest_116 (by decide) ?_
        refine w_calli F hP hS (k_traced l D Y ad N hI hN _ hL x (nI i) 0 hokq (by omega) (by omega)) (cwVm 3 F.2.2.2.2.1 (fun _ h => h) mw_546 mw_749 mw_544 mw_545 mw_2 rfl rfl ydX7_traced ⟨by decide, by decide⟩) (by omega) (ls_at hL) rfl rfl hl.1 rfl (Nat.le_of_ble_eq_true rfl) dL_isWidest_117 ⟨Nat.zero_le _, Nat.zero_le _⟩ (fun r2 C2 H locs hq hP hS => ?_)
        obtain ⟨hr2, hL2, hz2⟩ := hq
        have hH2 := hz2.trans hH
        have hr2 := hr2.trans ((trc_at hq hx (by decide) h4 hin hn eS).trans (if_neg (by rw [eS11]; decide)))
        subst hr2
        refine lv_istore (lv' := [(10, .int ((-6))), (9, .int (nI i)), (8, .int (1)), (7, .int (g 14 + 1)), (6, .int (du)), (5, .int (f 14)), (4, .int (nI n)), (3, .int (T_wide f 60)), (2, .int (x)), (1, .ref (ad 170)), (0, .ref (ad 0))]) F.1 F.2.1 dL_isWidest_120 hl (by decide) rfl (fun ls hl => ?_)
        refine lv_aload_n F.1 F.2.1 dL_isWidest_122 rfl (lv_at hl 10 rfl) ?_
        refine lv_iload_n F.1 F.2.1 dL_isWidest_123 rfl (lv_at hl 8 rfl) ?_
        refine lv_iload F.1 F.2.1 dL_isWidest_124 (lv_at hl 1 rfl) ?_
        refine lv_iconst (v := 1) F.1 F.2.1 dL_isWidest_126 (by decide) ?_
        refine w_calli F hP hS (k_traced l D Y ad N hI hN _ hL2 x (nI i) 1 hokq (by omega) (by omega)) (cwVm 3 F.2.2.2.2.1 (fun _ h => h) mw_546 mw_749 mw_544 mw_545 mw_2 rfl rfl ydX7_traced ⟨by decide, by decide⟩) (by omega) (ls_at hL2) rfl rfl hl.1 rfl (Nat.le_of_ble_eq_true rfl) dL_isWidest_127 ⟨Nat.zero_le _, Nat.zero_le _⟩ (fun r3 C3 H locs hq hP hS => ?_)
        obtain ⟨hr3, hL3, hz3⟩ := hq
        have hH3 := hz3.trans hH2
        have hr3 := hr3.trans ((trc_at hq hx (by decide) h4 hin hn eS).trans (if_neg (by rw [eS11]; decide)))
        subst hr3
        refine lv_istore (lv' := [(11, .int ((-6))), (10, .int ((-6))), (9, .int (nI i)), (8, .int (1)), (7, .int (g 14 + 1)), (6, .int (du)), (5, .int (f 14)), (4, .int (nI n)), (3, .int (T_wide f 60)), (2, .int (x)), (1, .ref (ad 170)), (0, .ref (ad 0))]) F.1 F.2.1 dL_isWidest_130 hl (by decide) rfl (fun ls hl => ?_)
        refine lv_aload_n F.1 F.2.1 dL_isWidest_132 rfl (lv_at hl 11 rfl) ?_
        refine lv_iload_n F.1 F.2.1 dL_isWidest_133 rfl (lv_at hl 9 rfl) ?_
        refine lv_iload F.1 F.2.1 dL_isWidest_134 (lv_at hl 2 rfl) ?_
        refine lv_iconst (v := 2) F.1 F.2.1 dL_isWidest_136 (by decide) ?_
        refine w_calli F hP hS (k_traced l D Y ad N hI hN _ hL3 x (nI i) 2 hokq (by omega) (by omega)) (cwVm 3 F.2.2.2.2.1 (fun _ h => h) mw_546 mw_749 mw_544 mw_545 mw_2 rfl rfl ydX7_traced ⟨by decide, by decide⟩) (by omega) (ls_at hL3) rfl rfl hl.1 rfl (Nat.le_of_ble_eq_true rfl) dL_isWidest_137 ⟨Nat.zero_le _, Nat.zero_le _⟩ (fun r4 C4 H locs hq hP hS => ?_)
        obtain ⟨hr4, hL4, hz4⟩ := hq
        have hH4 := hz4.trans hH3
        have hr4 := hr4.trans ((trc_at hq hx (by decide) h4 hin hn eS).trans (if_neg (by rw [eS11]; decide)))
        subst hr4
        refine lv_istore (lv' := [(12, .int ((-6))), (11, .int ((-6))), (10, .int ((-6))), (9, .int (nI i)), (8, .int (1)), (7, .int (g 14 + 1)), (6, .int (du)), (5, .int (f 14)), (4, .int (nI n)), (3, .int (T_wide f 60)), (2, .int (x)), (1, .ref (ad 170)), (0, .ref (ad 0))]) F.1 F.2.1 dL_isWidest_140 hl (by decide) rfl (fun ls hl => ?_)
        refine lv_aload_n F.1 F.2.1 dL_isWidest_142 rfl (lv_at hl 12 rfl) ?_
        refine lv_iconst (v := 5) F.1 F.2.1 dL_isWidest_143 (by decide) ?_
        refine w_calli F hP hS (k_ofHoop l D Y ad N hI hN _ hL4 5) (cwVm 1 F.2.2.2.2.1 (fun _ h => h) mw_454 mw_719 mw_452 mw_453 mw_2 rfl rfl ydX7_ofHoop ⟨by decide, by decide⟩) (by omega) (ls_at hL4) rfl rfl hl.1 rfl (Nat.le_of_ble_eq_true rfl) dL_isWidest_144 ⟨Nat.zero_le _, Nat.zero_le _⟩ (fun r5 C2 H locs hq hP hS => ?_)
        obtain ⟨hw5, hr5⟩ := hq; rw [hw5] at hP
        have hr5 := hr5.trans ((oh_5 hq5).trans hq11)
        subst hr5
        refine lv_if_ne (tgt := 158) F.1 F.2.1 dL_isWidest_147 (by decide) (fun c23 => False.elim (by revert c23; decide)) (fun c23 => ?_)
        refine lv_aload_n F.1 F.2.1 dL_isWidest_150 rfl (lv_at hl 12 rfl) ?_
        refine lv_iconst (v := 1) F.1 F.2.1 dL_isWidest_151 (by decide) ?_
        refine w_calli F hP hS (k_roll l D Y ad N hI hN _ hL4 hq5 hq11 hokq (by omega) (by omega)) (cwVm 1 F.2.2.2.2.1 (fun _ h => h) mw_278 mw_720 mw_276 mw_277 mw_2 rfl rfl ydX7_roll ⟨by decide, by decide⟩) (by omega) (ls_at hL4) rfl rfl hl.1 rfl (Nat.le_of_ble_eq_true rfl) dL_isWidest_152 ⟨Nat.zero_le _, Nat.zero_le _⟩ (fun r6 C6 H locs hq hP hS => ?_)
        obtain ⟨hr6, hL6, hz6⟩ := hq
        have hH6 := hz6.trans hH4
        have hr6 := hr6.trans (show T_rolled 1 q 0 11 = 2 by rw [eq2]; exact (a2.1 11 (by decide)).trans eS11)
        subst hr6
        rw [eq2] at hL6
        refine lv_goto (tgt := 163) F.1 F.2.1 dL_isWidest_155 (by decide) ?_
        refine lv_istore (lv' := [(13, .int (2)), (12, .int ((-6))), (11, .int ((-6))), (10, .int ((-6))), (9, .int (nI i)), (8, .int (1)), (7, .int (g 14 + 1)), (6, .int (du)), (5, .int (f 14)), (4, .int (nI n)), (3, .int (T_wide f 60)), (2, .int (x)), (1, .ref (ad 170)), (0, .ref (ad 0))]) F.1 F.2.1 dL_isWidest_163 hl (by decide) rfl (fun ls hl => ?_)
        refine lv_iload F.1 F.2.1 dL_isWidest_165 (lv_at hl 0 rfl) ?_
        refine lv_if_eq (tgt := 195) F.1 F.2.1 dL_isWidest_167 (by decide) (fun c24 => False.elim (by revert c24; decide)) (fun c24 => ?_)
        refine lv_iload F.1 F.2.1 dL_isWidest_170 (lv_at hl 0 rfl) ?_
        refine lv_iconst (v := 4) F.1 F.2.1 dL_isWidest_172 (by decide) ?_
        refine lv_icmp_ne (tgt := 199) F.1 F.2.1 dL_isWidest_173 (by decide) (fun c25 => ?_) (fun c25 => False.elim (by revert c25; decide))
        refine lv_iconst (v := 0) F.1 F.2.1 dL_isWidest_199 (by decide) ?_
        refine lv_istore (lv' := [(14, .int (0)), (13, .int (2)), (12, .int ((-6))), (11, .int ((-6))), (10, .int ((-6))), (9, .int (nI i)), (8, .int (1)), (7, .int (g 14 + 1)), (6, .int (du)), (5, .int (f 14)), (4, .int (nI n)), (3, .int (T_wide f 60)), (2, .int (x)), (1, .ref (ad 170)), (0, .ref (ad 0))]) F.1 F.2.1 dL_isWidest_200 hl (by decide) rfl (fun ls hl => ?_)
        refine lv_iload F.1 F.2.1 dL_isWidest_202 (lv_at hl 0 rfl) ?_
        refine lv_if_eq (tgt := 245) F.1 F.2.1 dL_isWidest_204 (by decide) (fun c26 => ?_) (fun c26 => False.elim (by revert c26; decide))
        refine lv_iload F.1 F.2.1 dL_isWidest_245 (lv_at hl 4 rfl) ?_
        refine lv_bipush (v := (-6)) F.1 F.2.1 dL_isWidest_247 (by decide) ?_
        refine lv_icmp_ne (tgt := 270) F.1 F.2.1 dL_isWidest_249 (by decide) (fun c27 => False.elim (by revert c27; decide)) (fun c27 => ?_)
        refine lv_iload F.1 F.2.1 dL_isWidest_252 (lv_at hl 3 rfl) ?_
        refine lv_bipush (v := (-6)) F.1 F.2.1 dL_isWidest_254 (by decide) ?_
        refine lv_icmp_ne (tgt := 270) F.1 F.2.1 dL_isWidest_256 (by decide) (fun c28 => False.elim (by revert c28; decide)) (fun c28 => ?_)
        refine lv_iload F.1 F.2.1 dL_isWidest_259 (lv_at hl 2 rfl) ?_
        refine lv_bipush (v := (-6)) F.1 F.2.1 dL_isWidest_261 (by decide) ?_
        refine lv_icmp_ne (tgt := 270) F.1 F.2.1 dL_isWidest_263 (by decide) (fun c29 => False.elim (by revert c29; decide)) (fun c29 => ?_)
        refine lv_iconst (v := 1) F.1 F.2.1 dL_isWidest_266 (by decide) ?_
        refine lv_goto (tgt := 271) F.1 F.2.1 dL_isWidest_267 (by decide) ?_
        refine lv_istore (lv' := [(8, .int (1)), (14, .int (0)), (13, .int (2)), (12, .int ((-6))), (11, .int ((-6))), (10, .int ((-6))), (9, .int (nI i)), (7, .int (g 14 + 1)), (6, .int (du)), (5, .int (f 14)), (4, .int (nI n)), (3, .int (T_wide f 60)), (2, .int (x)), (1, .ref (ad 170)), (0, .ref (ad 0))]) F.1 F.2.1 dL_isWidest_271 hl (by decide) rfl (fun ls hl => ?_)
        refine lv_iinc (v := (nI i) + 1) (lv' := [(9, .int ((nI i) + 1)), (8, .int (1)), (14, .int (0)), (13, .int (2)), (12, .int ((-6))), (11, .int ((-6))), (10, .int ((-6))), (7, .int (g 14 + 1)), (6, .int (du)), (5, .int (f 14)), (4, .int (nI n)), (3, .int (T_wide f 60)), (2, .int (x)), (1, .ref (ad 170)), (0, .ref (ad 0))]) F.1 F.2.1 dL_isWidest_273 hl (k := 6) rfl rfl (by decide) rfl (fun ls hl => ?_)
        refine lv_goto (tgt := 100) F.1 F.2.1 dL_isWidest_276 (by decide) ?_
        exact ih _ (by omega) _ _ _ _ ⟨i + 1, q2, rfl, hin, Or.inr (Or.inl ⟨Or.inr (Or.inl ((a2.1 11 (by decide)).trans eS11)), (by rw [eS]; exact a2)⟩), hok2, hq2s, hq25, hL6, hH6, (by rw [nI_succ]; exact lv_sub hl [0, 1, 7, 8, 9, 10, 11, 12, 13, 14] rfl)⟩ hP hS
      · refine lv_iload F.1 F.2.1 dL_isWidest_107 (lv_at hl 1 rfl) ?_
        refine lv_if_eq (tgt := 279) F.1 F.2.1 dL_isWidest_109 (by decide) (fun c30 => False.elim (by revert c30; decide)) (fun c30 => ?_)
        refine lv_aload_n F.1 F.2.1 dL_isWidest_112 rfl (lv_at hl 9 rfl) ?_
        refine lv_iload_n F.1 F.2.1 dL_isWidest_113 rfl (lv_at hl 7 rfl) ?_
        refine lv_iload F.1 F.2.1 dL_isWidest_114 (lv_at hl 0 rfl) ?_
        refine lv_iconst (v := 0) F.1 F.2.1 dL_isWidest_116 (by decide) ?_
        refine w_calli F hP hS (k_traced l D Y ad N hI hN _ hL x (nI i) 0 hokq (by omega) (by omega)) (cwVm 3 F.2.2.2.2.1 (fun _ h => h) mw_546 mw_749 mw_544 mw_545 mw_2 rfl rfl ydX7_traced ⟨by decide, by decide⟩) (by omega) (ls_at hL) rfl rfl hl.1 rfl (Nat.le_of_ble_eq_true rfl) dL_isWidest_117 ⟨Nat.zero_le _, Nat.zero_le _⟩ (fun r2 C2 H locs hq hP hS => ?_)
        obtain ⟨hr2, hL2, hz2⟩ := hq
        have hH2 := hz2.trans hH
        have hr2 := hr2.trans ((trc_at hq hx (by decide) h4 hin hn eS).trans (if_neg (by rw [eS11]; decide)))
        subst hr2
        refine lv_istore (lv' := [(10, .int ((-6))), (9, .int (nI i)), (8, .int (1)), (7, .int (g 14 + 1)), (6, .int (du)), (5, .int (f 14)), (4, .int (nI n)), (3, .int (T_wide f 60)), (2, .int (x)), (1, .ref (ad 170)), (0, .ref (ad 0))]) F.1 F.2.1 dL_isWidest_120 hl (by decide) rfl (fun ls hl => ?_)
        refine lv_aload_n F.1 F.2.1 dL_isWidest_122 rfl (lv_at hl 10 rfl) ?_
        refine lv_iload_n F.1 F.2.1 dL_isWidest_123 rfl (lv_at hl 8 rfl) ?_
        refine lv_iload F.1 F.2.1 dL_isWidest_124 (lv_at hl 1 rfl) ?_
        refine lv_iconst (v := 1) F.1 F.2.1 dL_isWidest_126 (by decide) ?_
        refine w_calli F hP hS (k_traced l D Y ad N hI hN _ hL2 x (nI i) 1 hokq (by omega) (by omega)) (cwVm 3 F.2.2.2.2.1 (fun _ h => h) mw_546 mw_749 mw_544 mw_545 mw_2 rfl rfl ydX7_traced ⟨by decide, by decide⟩) (by omega) (ls_at hL2) rfl rfl hl.1 rfl (Nat.le_of_ble_eq_true rfl) dL_isWidest_127 ⟨Nat.zero_le _, Nat.zero_le _⟩ (fun r3 C3 H locs hq hP hS => ?_)
        obtain ⟨hr3, hL3, hz3⟩ := hq
        have hH3 := hz3.trans hH2
        have hr3 := hr3.trans ((trc_at hq hx (by decide) h4 hin hn eS).trans (if_neg (by rw [eS11]; decide)))
        subst hr3
        refine lv_istore (lv' := [(11, .int ((-6))), (10, .int ((-6))), (9, .int (nI i)), (8, .int (1)), (7, .int (g 14 + 1)), (6, .int (du)), (5, .int (f 14)), (4, .int (nI n)), (3, .int (T_wide f 60)), (2, .int (x)), (1, .ref (ad 170)), (0, .ref (ad 0))]) F.1 F.2.1 dL_isWidest_130 hl (by decide) rfl (fun ls hl => ?_)
        refine lv_aload_n F.1 F.2.1 dL_isWidest_132 rfl (lv_at hl 11 rfl) ?_
        refine lv_iload_n F.1 F.2.1 dL_isWidest_133 rfl (lv_at hl 9 rfl) ?_
        refine lv_iload F.1 F.2.1 dL_isWidest_134 (lv_at hl 2 rfl) ?_
        refine lv_iconst (v := 2) F.1 F.2.1 dL_isWidest_136 (by decide) ?_
        refine w_calli F hP hS (k_traced l D Y ad N hI hN _ hL3 x (nI i) 2 hokq (by omega) (by omega)) (cwVm 3 F.2.2.2.2.1 (fun _ h => h) mw_546 mw_749 mw_544 mw_545 mw_2 rfl rfl ydX7_traced ⟨by decide, by decide⟩) (by omega) (ls_at hL3) rfl rfl hl.1 rfl (Nat.le_of_ble_eq_true rfl) dL_isWidest_137 ⟨Nat.zero_le _, Nat.zero_le _⟩ (fun r4 C4 H locs hq hP hS => ?_)
        obtain ⟨hr4, hL4, hz4⟩ := hq
        have hH4 := hz4.trans hH3
        have hr4 := hr4.trans ((trc_at hq hx (by decide) h4 hin hn eS).trans (if_neg (by rw [eS11]; decide)))
        subst hr4
        refine lv_istore (lv' := [(12, .int ((-6))), (11, .int ((-6))), (10, .int ((-6))), (9, .int (nI i)), (8, .int (1)), (7, .int (g 14 + 1)), (6, .int (du)), (5, .int (f 14)), (4, .int (nI n)), (3, .int (T_wide f 60)), (2, .int (x)), (1, .ref (ad 170)), (0, .ref (ad 0))]) F.1 F.2.1 dL_isWidest_140 hl (by decide) rfl (fun ls hl => ?_)
        refine lv_aload_n F.1 F.2.1 dL_isWidest_142 rfl (lv_at hl 12 rfl) ?_
        refine lv_iconst (v := 5) F.1 F.2.1 dL_isWidest_143 (by decide) ?_
        refine w_calli F hP hS (k_ofHoop l D Y ad N hI hN _ hL4 5) (cwVm 1 F.2.2.2.2.1 (fun _ h => h) mw_454 mw_719 mw_452 mw_453 mw_2 rfl rfl ydX7_ofHoop ⟨by decide, by decide⟩) (by omega) (ls_at hL4) rfl rfl hl.1 rfl (Nat.le_of_ble_eq_true rfl) dL_isWidest_144 ⟨Nat.zero_le _, Nat.zero_le _⟩ (fun r5 C2 H locs hq hP hS => ?_)
        obtain ⟨hw5, hr5⟩ := hq; rw [hw5] at hP
        have hr5 := hr5.trans ((oh_5 hq5).trans hq11)
        subst hr5
        refine lv_if_ne (tgt := 158) F.1 F.2.1 dL_isWidest_147 (by decide) (fun c31 => False.elim (by revert c31; decide)) (fun c31 => ?_)
        refine lv_aload_n F.1 F.2.1 dL_isWidest_150 rfl (lv_at hl 12 rfl) ?_
        refine lv_iconst (v := 1) F.1 F.2.1 dL_isWidest_151 (by decide) ?_
        refine w_calli F hP hS (k_roll l D Y ad N hI hN _ hL4 hq5 hq11 hokq (by omega) (by omega)) (cwVm 1 F.2.2.2.2.1 (fun _ h => h) mw_278 mw_720 mw_276 mw_277 mw_2 rfl rfl ydX7_roll ⟨by decide, by decide⟩) (by omega) (ls_at hL4) rfl rfl hl.1 rfl (Nat.le_of_ble_eq_true rfl) dL_isWidest_152 ⟨Nat.zero_le _, Nat.zero_le _⟩ (fun r6 C6 H locs hq hP hS => ?_)
        obtain ⟨hr6, hL6, hz6⟩ := hq
        have hH6 := hz6.trans hH4
        have hr6 := hr6.trans (show T_rolled 1 q 0 11 = 3 by rw [eq2]; exact (a2.1 11 (by decide)).trans eS11)
        subst hr6
        rw [eq2] at hL6
        refine lv_goto (tgt := 163) F.1 F.2.1 dL_isWidest_155 (by decide) ?_
        refine lv_istore (lv' := [(13, .int (3)), (12, .int ((-6))), (11, .int ((-6))), (10, .int ((-6))), (9, .int (nI i)), (8, .int (1)), (7, .int (g 14 + 1)), (6, .int (du)), (5, .int (f 14)), (4, .int (nI n)), (3, .int (T_wide f 60)), (2, .int (x)), (1, .ref (ad 170)), (0, .ref (ad 0))]) F.1 F.2.1 dL_isWidest_163 hl (by decide) rfl (fun ls hl => ?_)
        refine lv_iload F.1 F.2.1 dL_isWidest_165 (lv_at hl 0 rfl) ?_
        refine lv_if_eq (tgt := 195) F.1 F.2.1 dL_isWidest_167 (by decide) (fun c32 => False.elim (by revert c32; decide)) (fun c32 => ?_)
        refine lv_iload F.1 F.2.1 dL_isWidest_170 (lv_at hl 0 rfl) ?_
        refine lv_iconst (v := 4) F.1 F.2.1 dL_isWidest_172 (by decide) ?_
        refine lv_icmp_ne (tgt := 199) F.1 F.2.1 dL_isWidest_173 (by decide) (fun c33 => ?_) (fun c33 => False.elim (by revert c33; decide))
        refine lv_iconst (v := 0) F.1 F.2.1 dL_isWidest_199 (by decide) ?_
        refine lv_istore (lv' := [(14, .int (0)), (13, .int (3)), (12, .int ((-6))), (11, .int ((-6))), (10, .int ((-6))), (9, .int (nI i)), (8, .int (1)), (7, .int (g 14 + 1)), (6, .int (du)), (5, .int (f 14)), (4, .int (nI n)), (3, .int (T_wide f 60)), (2, .int (x)), (1, .ref (ad 170)), (0, .ref (ad 0))]) F.1 F.2.1 dL_isWidest_200 hl (by decide) rfl (fun ls hl => ?_)
        refine lv_iload F.1 F.2.1 dL_isWidest_202 (lv_at hl 0 rfl) ?_
        refine lv_if_eq (tgt := 245) F.1 F.2.1 dL_isWidest_204 (by decide) (fun c34 => ?_) (fun c34 => False.elim (by revert c34; decide))
        refine lv_iload F.1 F.2.1 dL_isWidest_245 (lv_at hl 4 rfl) ?_
        refine lv_bipush (v := (-6)) F.1 F.2.1 dL_isWidest_247 (by decide) ?_
        refine lv_icmp_ne (tgt := 270) F.1 F.2.1 dL_isWidest_249 (by decide) (fun c35 => False.elim (by revert c35; decide)) (fun c35 => ?_)
        refine lv_iload F.1 F.2.1 dL_isWidest_252 (lv_at hl 3 rfl) ?_
        refine lv_bipush (v := (-6)) F.1 F.2.1 dL_isWidest_254 (by decide) ?_
        refine lv_icmp_ne (tgt := 270) F.1 F.2.1 dL_isWidest_256 (by decide) (fun c36 => False.elim (by revert c36; decide)) (fun c36 => ?_)
        refine lv_iload F.1 F.2.1 dL_isWidest_259 (lv_at hl 2 rfl) ?_
        refine lv_bipush (v := (-6)) F.1 F.2.1 dL_isWidest_261 (by decide) ?_
        refine lv_icmp_ne (tgt := 270) F.1 F.2.1 dL_isWidest_263 (by decide) (fun c37 => False.elim (by revert c37; decide)) (fun c37 => ?_)
        refine lv_iconst (v := 1) F.1 F.2.1 dL_isWidest_266 (by decide) ?_
        refine lv_goto (tgt := 271) F.1 F.2.1 dL_isWidest_267 (by decide) ?_
        refine lv_istore (lv' := [(8, .int (1)), (14, .int (0)), (13, .int (3)), (12, .int ((-6))), (11, .int ((-6))), (10, .int ((-6))), (9, .int (nI i)), (7, .int (g 14 + 1)), (6, .int (du)), (5, .int (f 14)), (4, .int (nI n)), (3, .int (T_wide f 60)), (2, .int (x)), (1, .ref (ad 170)), (0, .ref (ad 0))]) F.1 F.2.1 dL_isWidest_271 hl (by decide) rfl (fun ls hl => ?_)
        refine lv_iinc (v := (nI i) + 1) (lv' := [(9, .int ((nI i) + 1)), (8, .int (1)), (14, .int (0)), (13, .int (3)), (12, .int ((-6))), (11, .int ((-6))), (10, .int ((-6))), (7, .int (g 14 + 1)), (6, .int (du)), (5, .int (f 14)), (4, .int (nI n)), (3, .int (T_wide f 60)), (2, .int (x)), (1, .ref (ad 170)), (0, .ref (ad 0))]) F.1 F.2.1 dL_isWidest_273 hl (k := 6) rfl rfl (by decide) rfl (fun ls hl => ?_)
        refine lv_goto (tgt := 100) F.1 F.2.1 dL_isWidest_276 (by decide) ?_
        exact ih _ (by omega) _ _ _ _ ⟨i + 1, q2, rfl, hin, Or.inr (Or.inl ⟨Or.inr (Or.inr ((a2.1 11 (by decide)).trans eS11)), (by rw [eS]; exact a2)⟩), hok2, hq2s, hq25, hL6, hH6, (by rw [nI_succ]; exact lv_sub hl [0, 1, 7, 8, 9, 10, 11, 12, 13, 14] rfl)⟩ hP hS
      · obtain ⟨hS10, en⟩ := hS4 eS11
        refine lv_iload F.1 F.2.1 dL_isWidest_107 (lv_at hl 1 rfl) ?_
        refine lv_if_eq (tgt := 279) F.1 F.2.1 dL_isWidest_109 (by decide) (fun c38 => False.elim (by revert c38; decide)) (fun c38 => ?_)
        refine lv_aload_n F.1 F.2.1 dL_isWidest_112 rfl (lv_at hl 9 rfl) ?_
        refine lv_iload_n F.1 F.2.1 dL_isWidest_113 rfl (lv_at hl 7 rfl) ?_
        refine lv_iload F.1 F.2.1 dL_isWidest_114 (lv_at hl 0 rfl) ?_
        refine lv_iconst (v := 0) F.1 F.2.1 dL_isWidest_116 (by decide) ?_
        refine w_calli F hP hS (k_traced l D Y ad N hI hN _ hL x (nI i) 0 hokq (by omega) (by omega)) (cwVm 3 F.2.2.2.2.1 (fun _ h => h) mw_546 mw_749 mw_544 mw_545 mw_2 rfl rfl ydX7_traced ⟨by decide, by decide⟩) (by omega) (ls_at hL) rfl rfl hl.1 rfl (Nat.le_of_ble_eq_true rfl) dL_isWidest_117 ⟨Nat.zero_le _, Nat.zero_le _⟩ (fun r2 C2 H locs hq hP hS => ?_)
        obtain ⟨hr2, hL2, hz2⟩ := hq
        have hH2 := hz2.trans hH
        have hr2 := hr2.trans ((trc_at hq hx (by decide) h4 hin hn eS).trans ((if_pos (Or.inr eS11)).trans (show T_about S (0 + 1) = S 7 from ab_1)))
        subst hr2
        refine lv_istore (lv' := [(10, .int (S 7)), (9, .int (nI i)), (8, .int (1)), (7, .int (g 14 + 1)), (6, .int (du)), (5, .int (f 14)), (4, .int (nI n)), (3, .int (T_wide f 60)), (2, .int (x)), (1, .ref (ad 170)), (0, .ref (ad 0))]) F.1 F.2.1 dL_isWidest_120 hl (by decide) rfl (fun ls hl => ?_)
        refine lv_aload_n F.1 F.2.1 dL_isWidest_122 rfl (lv_at hl 10 rfl) ?_
        refine lv_iload_n F.1 F.2.1 dL_isWidest_123 rfl (lv_at hl 8 rfl) ?_
        refine lv_iload F.1 F.2.1 dL_isWidest_124 (lv_at hl 1 rfl) ?_
        refine lv_iconst (v := 1) F.1 F.2.1 dL_isWidest_126 (by decide) ?_
        refine w_calli F hP hS (k_traced l D Y ad N hI hN _ hL2 x (nI i) 1 hokq (by omega) (by omega)) (cwVm 3 F.2.2.2.2.1 (fun _ h => h) mw_546 mw_749 mw_544 mw_545 mw_2 rfl rfl ydX7_traced ⟨by decide, by decide⟩) (by omega) (ls_at hL2) rfl rfl hl.1 rfl (Nat.le_of_ble_eq_true rfl) dL_isWidest_127 ⟨Nat.zero_le _, Nat.zero_le _⟩ (fun r3 C3 H locs hq hP hS => ?_)
        obtain ⟨hr3, hL3, hz3⟩ := hq
        have hH3 := hz3.trans hH2
        have hr3 := hr3.trans ((trc_at hq hx (by decide) h4 hin hn eS).trans ((if_pos (Or.inr eS11)).trans (show T_about S (1 + 1) = S 8 + 500 from ab_2)))
        subst hr3
        refine lv_istore (lv' := [(11, .int (S 8 + 500)), (10, .int (S 7)), (9, .int (nI i)), (8, .int (1)), (7, .int (g 14 + 1)), (6, .int (du)), (5, .int (f 14)), (4, .int (nI n)), (3, .int (T_wide f 60)), (2, .int (x)), (1, .ref (ad 170)), (0, .ref (ad 0))]) F.1 F.2.1 dL_isWidest_130 hl (by decide) rfl (fun ls hl => ?_)
        refine lv_aload_n F.1 F.2.1 dL_isWidest_132 rfl (lv_at hl 11 rfl) ?_
        refine lv_iload_n F.1 F.2.1 dL_isWidest_133 rfl (lv_at hl 9 rfl) ?_
        refine lv_iload F.1 F.2.1 dL_isWidest_134 (lv_at hl 2 rfl) ?_
        refine lv_iconst (v := 2) F.1 F.2.1 dL_isWidest_136 (by decide) ?_
        refine w_calli F hP hS (k_traced l D Y ad N hI hN _ hL3 x (nI i) 2 hokq (by omega) (by omega)) (cwVm 3 F.2.2.2.2.1 (fun _ h => h) mw_546 mw_749 mw_544 mw_545 mw_2 rfl rfl ydX7_traced ⟨by decide, by decide⟩) (by omega) (ls_at hL3) rfl rfl hl.1 rfl (Nat.le_of_ble_eq_true rfl) dL_isWidest_137 ⟨Nat.zero_le _, Nat.zero_le _⟩ (fun r4 C4 H locs hq hP hS => ?_)
        obtain ⟨hr4, hL4, hz4⟩ := hq
        have hH4 := hz4.trans hH3
        have hr4 := hr4.trans ((trc_at hq hx (by decide) h4 hin hn eS).trans ((if_pos (Or.inr eS11)).trans (show T_about S (2 + 1) = S 9 from ab_3)))
        subst hr4
        refine lv_istore (lv' := [(12, .int (S 9)), (11, .int (S 8 + 500)), (10, .int (S 7)), (9, .int (nI i)), (8, .int (1)), (7, .int (g 14 + 1)), (6, .int (du)), (5, .int (f 14)), (4, .int (nI n)), (3, .int (T_wide f 60)), (2, .int (x)), (1, .ref (ad 170)), (0, .ref (ad 0))]) F.1 F.2.1 dL_isWidest_140 hl (by decide) rfl (fun ls hl => ?_)
        refine lv_aload_n F.1 F.2.1 dL_isWidest_142 rfl (lv_at hl 12 rfl) ?_
        refine lv_iconst (v := 5) F.1 F.2.1 dL_isWidest_143 (by decide) ?_
        refine w_calli F hP hS (k_ofHoop l D Y ad N hI hN _ hL4 5) (cwVm 1 F.2.2.2.2.1 (fun _ h => h) mw_454 mw_719 mw_452 mw_453 mw_2 rfl rfl ydX7_ofHoop ⟨by decide, by decide⟩) (by omega) (ls_at hL4) rfl rfl hl.1 rfl (Nat.le_of_ble_eq_true rfl) dL_isWidest_144 ⟨Nat.zero_le _, Nat.zero_le _⟩ (fun r5 C2 H locs hq hP hS => ?_)
        obtain ⟨hw5, hr5⟩ := hq; rw [hw5] at hP
        have hr5 := hr5.trans ((oh_5 hq5).trans hq11)
        subst hr5
        refine lv_if_ne (tgt := 158) F.1 F.2.1 dL_isWidest_147 (by decide) (fun c39 => False.elim (by revert c39; decide)) (fun c39 => ?_)
        refine lv_aload_n F.1 F.2.1 dL_isWidest_150 rfl (lv_at hl 12 rfl) ?_
        refine lv_iconst (v := 1) F.1 F.2.1 dL_isWidest_151 (by decide) ?_
        refine w_calli F hP hS (k_roll l D Y ad N hI hN _ hL4 hq5 hq11 hokq (by omega) (by omega)) (cwVm 1 F.2.2.2.2.1 (fun _ h => h) mw_278 mw_720 mw_276 mw_277 mw_2 rfl rfl ydX7_roll ⟨by decide, by decide⟩) (by omega) (ls_at hL4) rfl rfl hl.1 rfl (Nat.le_of_ble_eq_true rfl) dL_isWidest_152 ⟨Nat.zero_le _, Nat.zero_le _⟩ (fun r6 C6 H locs hq hP hS => ?_)
        obtain ⟨hr6, hL6, hz6⟩ := hq
        have hH6 := hz6.trans hH4
        have hr6 := hr6.trans (show T_rolled 1 q 0 11 = 4 by rw [eq2]; exact (a2.1 11 (by decide)).trans eS11)
        subst hr6
        rw [eq2] at hL6
        refine lv_goto (tgt := 163) F.1 F.2.1 dL_isWidest_155 (by decide) ?_
        refine lv_istore (lv' := [(13, .int (4)), (12, .int (S 9)), (11, .int (S 8 + 500)), (10, .int (S 7)), (9, .int (nI i)), (8, .int (1)), (7, .int (g 14 + 1)), (6, .int (du)), (5, .int (f 14)), (4, .int (nI n)), (3, .int (T_wide f 60)), (2, .int (x)), (1, .ref (ad 170)), (0, .ref (ad 0))]) F.1 F.2.1 dL_isWidest_163 hl (by decide) rfl (fun ls hl => ?_)
        refine lv_iload F.1 F.2.1 dL_isWidest_165 (lv_at hl 0 rfl) ?_
        refine lv_if_eq (tgt := 195) F.1 F.2.1 dL_isWidest_167 (by decide) (fun c40 => False.elim (by revert c40; decide)) (fun c40 => ?_)
        refine lv_iload F.1 F.2.1 dL_isWidest_170 (lv_at hl 0 rfl) ?_
        refine lv_iconst (v := 4) F.1 F.2.1 dL_isWidest_172 (by decide) ?_
        refine lv_icmp_ne (tgt := 199) F.1 F.2.1 dL_isWidest_173 (by decide) (fun c41 => False.elim (by revert c41; decide)) (fun c41 => ?_)
        refine lv_aload_n F.1 F.2.1 dL_isWidest_176 rfl (lv_at hl 13 rfl) ?_
        refine lv_iconst (v := 4) F.1 F.2.1 dL_isWidest_177 (by decide) ?_
        refine w_calli F hP hS (k_ofHoop l D Y ad N hI hN _ hL6 4) (cwVm 1 F.2.2.2.2.1 (fun _ h => h) mw_454 mw_719 mw_452 mw_453 mw_2 rfl rfl ydX7_ofHoop ⟨by decide, by decide⟩) (by omega) (ls_at hL6) rfl rfl hl.1 rfl (Nat.le_of_ble_eq_true rfl) dL_isWidest_178 ⟨Nat.zero_le _, Nat.zero_le _⟩ (fun r7 C2 H locs hq hP hS => ?_)
        obtain ⟨hw7, hr7⟩ := hq; rw [hw7] at hP
        have hr7 := hr7.trans ((oh_4 hq25).trans ((a2.1 10 (by decide)).trans hS10))
        subst hr7
        refine lv_iload F.1 F.2.1 dL_isWidest_181 (lv_at hl 9 rfl) ?_
        refine lv_icmp_ne (tgt := 199) F.1 F.2.1 dL_isWidest_183 (by decide) (fun c42 => False.elim (c42 rfl)) (fun c42 => ?_)
        refine lv_iload F.1 F.2.1 dL_isWidest_186 (lv_at hl 4 rfl) ?_
        refine lv_iload F.1 F.2.1 dL_isWidest_188 (lv_at hl 9 rfl) ?_
        refine lv_iconst (v := 1) F.1 F.2.1 dL_isWidest_190 (by decide) ?_
        refine lv_isub F.1 F.2.1 dL_isWidest_191 ?_
        refine lv_topi (fun v43 ev43 => ?_)
        have ev43 : v43 = nI i := ev43.trans (by rw [en]; exact nI_pred i)
        subst ev43
        refine lv_icmp_ne (tgt := 199) F.1 F.2.1 dL_isWidest_192 (by decide) (fun c44 => False.elim (c44 rfl)) (fun c44 => ?_)
        refine lv_iconst (v := 1) F.1 F.2.1 dL_isWidest_195 (by decide) ?_
        refine lv_goto (tgt := 200) F.1 F.2.1 dL_isWidest_196 (by decide) ?_
        refine lv_istore (lv' := [(14, .int (1)), (13, .int (4)), (12, .int (S 9)), (11, .int (S 8 + 500)), (10, .int (S 7)), (9, .int (nI i)), (8, .int (1)), (7, .int (g 14 + 1)), (6, .int (du)), (5, .int (f 14)), (4, .int (nI n)), (3, .int (T_wide f 60)), (2, .int (x)), (1, .ref (ad 170)), (0, .ref (ad 0))]) F.1 F.2.1 dL_isWidest_200 hl (by decide) rfl (fun ls hl => ?_)
        refine lv_iload F.1 F.2.1 dL_isWidest_202 (lv_at hl 0 rfl) ?_
        refine lv_if_eq (tgt := 245) F.1 F.2.1 dL_isWidest_204 (by decide) (fun c45 => False.elim (by revert c45; decide)) (fun c45 => ?_)
        refine lv_iload F.1 F.2.1 dL_isWidest_207 (lv_at hl 4 rfl) ?_
        refine lv_aload_n F.1 F.2.1 dL_isWidest_209 rfl (lv_at hl 14 rfl) ?_
        refine lv_iconst (v := 1) F.1 F.2.1 dL_isWidest_210 (by decide) ?_
        refine w_calli F hP hS (k_ofHoop l D Y ad N hI hN _ hL6 1) (cwVm 1 F.2.2.2.2.1 (fun _ h => h) mw_454 mw_719 mw_452 mw_453 mw_2 rfl rfl ydX7_ofHoop ⟨by decide, by decide⟩) (by omega) (ls_at hL6) rfl rfl hl.1 rfl (Nat.le_of_ble_eq_true rfl) dL_isWidest_211 ⟨Nat.zero_le _, Nat.zero_le _⟩ (fun r8 C2 H locs hq hP hS => ?_)
        obtain ⟨hw8, hr8⟩ := hq; rw [hw8] at hP
        have hr8 := hr8.trans ((oh_1 hq25).trans (a2.1 7 (by decide)))
        subst hr8
        refine lv_icmp_ne (tgt := 241) F.1 F.2.1 dL_isWidest_214 (by decide) (fun c46 => False.elim (c46 rfl)) (fun c46 => ?_)
        refine lv_iload F.1 F.2.1 dL_isWidest_217 (lv_at hl 3 rfl) ?_
        refine lv_aload_n F.1 F.2.1 dL_isWidest_219 rfl (lv_at hl 14 rfl) ?_
        refine lv_iconst (v := 2) F.1 F.2.1 dL_isWidest_220 (by decide) ?_
        refine w_calli F hP hS (k_ofHoop l D Y ad N hI hN _ hL6 2) (cwVm 1 F.2.2.2.2.1 (fun _ h => h) mw_454 mw_719 mw_452 mw_453 mw_2 rfl rfl ydX7_ofHoop ⟨by decide, by decide⟩) (by omega) (ls_at hL6) rfl rfl hl.1 rfl (Nat.le_of_ble_eq_true rfl) dL_isWidest_221 ⟨Nat.zero_le _, Nat.zero_le _⟩ (fun r9 C2 H locs hq hP hS => ?_)
        obtain ⟨hw9, hr9⟩ := hq; rw [hw9] at hP
        have hr9 := hr9.trans ((oh_2 hq25).trans (by rw [a2.1 8 (by decide)]))
        subst hr9
        refine lv_icmp_ne (tgt := 241) F.1 F.2.1 dL_isWidest_224 (by decide) (fun c47 => False.elim (c47 rfl)) (fun c47 => ?_)
        refine lv_iload F.1 F.2.1 dL_isWidest_227 (lv_at hl 2 rfl) ?_
        refine lv_aload_n F.1 F.2.1 dL_isWidest_229 rfl (lv_at hl 14 rfl) ?_
        refine lv_iconst (v := 3) F.1 F.2.1 dL_isWidest_230 (by decide) ?_
        refine w_calli F hP hS (k_ofHoop l D Y ad N hI hN _ hL6 3) (cwVm 1 F.2.2.2.2.1 (fun _ h => h) mw_454 mw_719 mw_452 mw_453 mw_2 rfl rfl ydX7_ofHoop ⟨by decide, by decide⟩) (by omega) (ls_at hL6) rfl rfl hl.1 rfl (Nat.le_of_ble_eq_true rfl) dL_isWidest_231 ⟨Nat.zero_le _, Nat.zero_le _⟩ (fun r10 C2 H locs hq hP hS => ?_)
        obtain ⟨hw10, hr10⟩ := hq; rw [hw10] at hP
        have hr10 := hr10.trans ((oh_3 hq25).trans (a2.1 9 (by decide)))
        subst hr10
        refine lv_icmp_ne (tgt := 241) F.1 F.2.1 dL_isWidest_234 (by decide) (fun c48 => False.elim (c48 rfl)) (fun c48 => ?_)
        refine lv_iconst (v := 1) F.1 F.2.1 dL_isWidest_237 (by decide) ?_
        refine lv_goto (tgt := 271) F.1 F.2.1 dL_isWidest_238 (by decide) ?_
        refine lv_istore (lv' := [(8, .int (1)), (14, .int (1)), (13, .int (4)), (12, .int (S 9)), (11, .int (S 8 + 500)), (10, .int (S 7)), (9, .int (nI i)), (7, .int (g 14 + 1)), (6, .int (du)), (5, .int (f 14)), (4, .int (nI n)), (3, .int (T_wide f 60)), (2, .int (x)), (1, .ref (ad 170)), (0, .ref (ad 0))]) F.1 F.2.1 dL_isWidest_271 hl (by decide) rfl (fun ls hl => ?_)
        refine lv_iinc (v := (nI i) + 1) (lv' := [(9, .int ((nI i) + 1)), (8, .int (1)), (14, .int (1)), (13, .int (4)), (12, .int (S 9)), (11, .int (S 8 + 500)), (10, .int (S 7)), (7, .int (g 14 + 1)), (6, .int (du)), (5, .int (f 14)), (4, .int (nI n)), (3, .int (T_wide f 60)), (2, .int (x)), (1, .ref (ad 170)), (0, .ref (ad 0))]) F.1 F.2.1 dL_isWidest_273 hl (k := 6) rfl rfl (by decide) rfl (fun ls hl => ?_)
        refine lv_goto (tgt := 100) F.1 F.2.1 dL_isWidest_276 (by decide) ?_
        exact ih _ (by omega) _ _ _ _ ⟨i + 1, q2, rfl, hin, Or.inr (Or.inr en.symm), hok2, hq2s, hq25, hL6, hH6, (by rw [nI_succ]; exact lv_sub hl [0, 1, 7, 8, 9, 10, 11, 12, 13, 14] rfl)⟩ hP hS
    · have hne : ¬ q 11 = 0 := by rcases hq3 with z | z | z <;> rw [z] <;> decide
      rw [wi_stay hne hqa] at eS
      have a2 : ag q S := by rw [← eS]; exact hqa
      have eS : (T_roll (i + 1) (T_begin x f) 0).1 = S := by rw [wi_stay hne hqa]; exact eS
      rcases hq3 with hq11 | hq11 | hq11
      · have eS11 : S 11 = 1 := (a2.1 11 (by decide)).symm.trans hq11
        refine lv_iload F.1 F.2.1 dL_isWidest_107 (lv_at hl 1 rfl) ?_
        refine lv_if_eq (tgt := 279) F.1 F.2.1 dL_isWidest_109 (by decide) (fun c49 => False.elim (by revert c49; decide)) (fun c49 => ?_)
        refine lv_aload_n F.1 F.2.1 dL_isWidest_112 rfl (lv_at hl 9 rfl) ?_
        refine lv_iload_n F.1 F.2.1 dL_isWidest_113 rfl (lv_at hl 7 rfl) ?_
        refine lv_iload F.1 F.2.1 dL_isWidest_114 (lv_at hl 0 rfl) ?_
        refine lv_iconst (v := 0) F.1 F.2.1 dL_isWidest_116 (by decide) ?_
        refine w_calli F hP hS (k_traced l D Y ad N hI hN _ hL x (nI i) 0 hokq (by omega) (by omega)) (cwVm 3 F.2.2.2.2.1 (fun _ h => h) mw_546 mw_749 mw_544 mw_545 mw_2 rfl rfl ydX7_traced ⟨by decide, by decide⟩) (by omega) (ls_at hL) rfl rfl hl.1 rfl (Nat.le_of_ble_eq_true rfl) dL_isWidest_117 ⟨Nat.zero_le _, Nat.zero_le _⟩ (fun r2 C2 H locs hq hP hS => ?_)
        obtain ⟨hr2, hL2, hz2⟩ := hq
        have hH2 := hz2.trans hH
        have hr2 := hr2.trans ((trc_at hq hx (by decide) h4 hin hn eS).trans (if_neg (by rw [eS11]; decide)))
        subst hr2
        refine lv_istore (lv' := [(10, .int ((-6))), (9, .int (nI i)), (8, .int (1)), (7, .int (g 14 + 1)), (6, .int (du)), (5, .int (f 14)), (4, .int (nI n)), (3, .int (T_wide f 60)), (2, .int (x)), (1, .ref (ad 170)), (0, .ref (ad 0))]) F.1 F.2.1 dL_isWidest_120 hl (by decide) rfl (fun ls hl => ?_)
        refine lv_aload_n F.1 F.2.1 dL_isWidest_122 rfl (lv_at hl 10 rfl) ?_
        refine lv_iload_n F.1 F.2.1 dL_isWidest_123 rfl (lv_at hl 8 rfl) ?_
        refine lv_iload F.1 F.2.1 dL_isWidest_124 (lv_at hl 1 rfl) ?_
        refine lv_iconst (v := 1) F.1 F.2.1 dL_isWidest_126 (by decide) ?_
        refine w_calli F hP hS (k_traced l D Y ad N hI hN _ hL2 x (nI i) 1 hokq (by omega) (by omega)) (cwVm 3 F.2.2.2.2.1 (fun _ h => h) mw_546 mw_749 mw_544 mw_545 mw_2 rfl rfl ydX7_traced ⟨by decide, by decide⟩) (by omega) (ls_at hL2) rfl rfl hl.1 rfl (Nat.le_of_ble_eq_true rfl) dL_isWidest_127 ⟨Nat.zero_le _, Nat.zero_le _⟩ (fun r3 C3 H locs hq hP hS => ?_)
        obtain ⟨hr3, hL3, hz3⟩ := hq
        have hH3 := hz3.trans hH2
        have hr3 := hr3.trans ((trc_at hq hx (by decide) h4 hin hn eS).trans (if_neg (by rw [eS11]; decide)))
        subst hr3
        refine lv_istore (lv' := [(11, .int ((-6))), (10, .int ((-6))), (9, .int (nI i)), (8, .int (1)), (7, .int (g 14 + 1)), (6, .int (du)), (5, .int (f 14)), (4, .int (nI n)), (3, .int (T_wide f 60)), (2, .int (x)), (1, .ref (ad 170)), (0, .ref (ad 0))]) F.1 F.2.1 dL_isWidest_130 hl (by decide) rfl (fun ls hl => ?_)
        refine lv_aload_n F.1 F.2.1 dL_isWidest_132 rfl (lv_at hl 11 rfl) ?_
        refine lv_iload_n F.1 F.2.1 dL_isWidest_133 rfl (lv_at hl 9 rfl) ?_
        refine lv_iload F.1 F.2.1 dL_isWidest_134 (lv_at hl 2 rfl) ?_
        refine lv_iconst (v := 2) F.1 F.2.1 dL_isWidest_136 (by decide) ?_
        refine w_calli F hP hS (k_traced l D Y ad N hI hN _ hL3 x (nI i) 2 hokq (by omega) (by omega)) (cwVm 3 F.2.2.2.2.1 (fun _ h => h) mw_546 mw_749 mw_544 mw_545 mw_2 rfl rfl ydX7_traced ⟨by decide, by decide⟩) (by omega) (ls_at hL3) rfl rfl hl.1 rfl (Nat.le_of_ble_eq_true rfl) dL_isWidest_137 ⟨Nat.zero_le _, Nat.zero_le _⟩ (fun r4 C4 H locs hq hP hS => ?_)
        obtain ⟨hr4, hL4, hz4⟩ := hq
        have hH4 := hz4.trans hH3
        have hr4 := hr4.trans ((trc_at hq hx (by decide) h4 hin hn eS).trans (if_neg (by rw [eS11]; decide)))
        subst hr4
        refine lv_istore (lv' := [(12, .int ((-6))), (11, .int ((-6))), (10, .int ((-6))), (9, .int (nI i)), (8, .int (1)), (7, .int (g 14 + 1)), (6, .int (du)), (5, .int (f 14)), (4, .int (nI n)), (3, .int (T_wide f 60)), (2, .int (x)), (1, .ref (ad 170)), (0, .ref (ad 0))]) F.1 F.2.1 dL_isWidest_140 hl (by decide) rfl (fun ls hl => ?_)
        refine lv_aload_n F.1 F.2.1 dL_isWidest_142 rfl (lv_at hl 12 rfl) ?_
        refine lv_iconst (v := 5) F.1 F.2.1 dL_isWidest_143 (by decide) ?_
        refine w_calli F hP hS (k_ofHoop l D Y ad N hI hN _ hL4 5) (cwVm 1 F.2.2.2.2.1 (fun _ h => h) mw_454 mw_719 mw_452 mw_453 mw_2 rfl rfl ydX7_ofHoop ⟨by decide, by decide⟩) (by omega) (ls_at hL4) rfl rfl hl.1 rfl (Nat.le_of_ble_eq_true rfl) dL_isWidest_144 ⟨Nat.zero_le _, Nat.zero_le _⟩ (fun r5 C2 H locs hq hP hS => ?_)
        obtain ⟨hw5, hr5⟩ := hq; rw [hw5] at hP
        have hr5 := hr5.trans ((oh_5 hq5).trans hq11)
        subst hr5
        refine lv_if_ne (tgt := 158) F.1 F.2.1 dL_isWidest_147 (by decide) (fun c50 => ?_) (fun c50 => False.elim (by revert c50; decide))
        refine lv_aload_n F.1 F.2.1 dL_isWidest_158 rfl (lv_at hl 12 rfl) ?_
        refine lv_iconst (v := 5) F.1 F.2.1 dL_isWidest_159 (by decide) ?_
        refine w_calli F hP hS (k_ofHoop l D Y ad N hI hN _ hL4 5) (cwVm 1 F.2.2.2.2.1 (fun _ h => h) mw_454 mw_719 mw_452 mw_453 mw_2 rfl rfl ydX7_ofHoop ⟨by decide, by decide⟩) (by omega) (ls_at hL4) rfl rfl hl.1 rfl (Nat.le_of_ble_eq_true rfl) dL_isWidest_160 ⟨Nat.zero_le _, Nat.zero_le _⟩ (fun r6 C2 H locs hq hP hS => ?_)
        obtain ⟨hw6, hr6⟩ := hq; rw [hw6] at hP
        have hr6 := hr6.trans ((oh_5 hq5).trans hq11)
        subst hr6
        refine lv_istore (lv' := [(13, .int (1)), (12, .int ((-6))), (11, .int ((-6))), (10, .int ((-6))), (9, .int (nI i)), (8, .int (1)), (7, .int (g 14 + 1)), (6, .int (du)), (5, .int (f 14)), (4, .int (nI n)), (3, .int (T_wide f 60)), (2, .int (x)), (1, .ref (ad 170)), (0, .ref (ad 0))]) F.1 F.2.1 dL_isWidest_163 hl (by decide) rfl (fun ls hl => ?_)
        refine lv_iload F.1 F.2.1 dL_isWidest_165 (lv_at hl 0 rfl) ?_
        refine lv_if_eq (tgt := 195) F.1 F.2.1 dL_isWidest_167 (by decide) (fun c51 => False.elim (by revert c51; decide)) (fun c51 => ?_)
        refine lv_iload F.1 F.2.1 dL_isWidest_170 (lv_at hl 0 rfl) ?_
        refine lv_iconst (v := 4) F.1 F.2.1 dL_isWidest_172 (by decide) ?_
        refine lv_icmp_ne (tgt := 199) F.1 F.2.1 dL_isWidest_173 (by decide) (fun c52 => ?_) (fun c52 => False.elim (by revert c52; decide))
        refine lv_iconst (v := 0) F.1 F.2.1 dL_isWidest_199 (by decide) ?_
        refine lv_istore (lv' := [(14, .int (0)), (13, .int (1)), (12, .int ((-6))), (11, .int ((-6))), (10, .int ((-6))), (9, .int (nI i)), (8, .int (1)), (7, .int (g 14 + 1)), (6, .int (du)), (5, .int (f 14)), (4, .int (nI n)), (3, .int (T_wide f 60)), (2, .int (x)), (1, .ref (ad 170)), (0, .ref (ad 0))]) F.1 F.2.1 dL_isWidest_200 hl (by decide) rfl (fun ls hl => ?_)
        refine lv_iload F.1 F.2.1 dL_isWidest_202 (lv_at hl 0 rfl) ?_
        refine lv_if_eq (tgt := 245) F.1 F.2.1 dL_isWidest_204 (by decide) (fun c53 => ?_) (fun c53 => False.elim (by revert c53; decide))
        refine lv_iload F.1 F.2.1 dL_isWidest_245 (lv_at hl 4 rfl) ?_
        refine lv_bipush (v := (-6)) F.1 F.2.1 dL_isWidest_247 (by decide) ?_
        refine lv_icmp_ne (tgt := 270) F.1 F.2.1 dL_isWidest_249 (by decide) (fun c54 => False.elim (by revert c54; decide)) (fun c54 => ?_)
        refine lv_iload F.1 F.2.1 dL_isWidest_252 (lv_at hl 3 rfl) ?_
        refine lv_bipush (v := (-6)) F.1 F.2.1 dL_isWidest_254 (by decide) ?_
        refine lv_icmp_ne (tgt := 270) F.1 F.2.1 dL_isWidest_256 (by decide) (fun c55 => False.elim (by revert c55; decide)) (fun c55 => ?_)
        refine lv_iload F.1 F.2.1 dL_isWidest_259 (lv_at hl 2 rfl) ?_
        refine lv_bipush (v := (-6)) F.1 F.2.1 dL_isWidest_261 (by decide) ?_
        refine lv_icmp_ne (tgt := 270) F.1 F.2.1 dL_isWidest_263 (by decide) (fun c56 => False.elim (by revert c56; decide)) (fun c56 => ?_)
        refine lv_iconst (v := 1) F.1 F.2.1 dL_isWidest_266 (by decide) ?_
        refine lv_goto (tgt := 271) F.1 F.2.1 dL_isWidest_267 (by decide) ?_
        refine lv_istore (lv' := [(8, .int (1)), (14, .int (0)), (13, .int (1)), (12, .int ((-6))), (11, .int ((-6))), (10, .int ((-6))), (9, .int (nI i)), (7, .int (g 14 + 1)), (6, .int (du)), (5, .int (f 14)), (4, .int (nI n)), (3, .int (T_wide f 60)), (2, .int (x)), (1, .ref (ad 170)), (0, .ref (ad 0))]) F.1 F.2.1 dL_isWidest_271 hl (by decide) rfl (fun ls hl => ?_)
        refine lv_iinc (v := (nI i) + 1) (lv' := [(9, .int ((nI i) + 1)), (8, .int (1)), (14, .int (0)), (13, .int (1)), (12, .int ((-6))), (11, .int ((-6))), (10, .int ((-6))), (7, .int (g 14 + 1)), (6, .int (du)), (5, .int (f 14)), (4, .int (nI n)), (3, .int (T_wide f 60)), (2, .int (x)), (1, .ref (ad 170)), (0, .ref (ad 0))]) F.1 F.2.1 dL_isWidest_273 hl (k := 6) rfl rfl (by decide) rfl (fun ls hl => ?_)
        refine lv_goto (tgt := 100) F.1 F.2.1 dL_isWidest_276 (by decide) ?_
        exact ih _ (by omega) _ _ _ _ ⟨i + 1, q, rfl, hin, Or.inr (Or.inl ⟨Or.inl ((a2.1 11 (by decide)).trans eS11), (by rw [eS]; exact a2)⟩), (okRow_mono (by omega) hokq), hq, hq5, hL4, hH4, (by rw [nI_succ]; exact lv_sub hl [0, 1, 7, 8, 9, 10, 11, 12, 13, 14] rfl)⟩ hP hS
      · have eS11 : S 11 = 2 := (a2.1 11 (by decide)).symm.trans hq11
        refine lv_iload F.1 F.2.1 dL_isWidest_107 (lv_at hl 1 rfl) ?_
        refine lv_if_eq (tgt := 279) F.1 F.2.1 dL_isWidest_109 (by decide) (fun c57 => False.elim (by revert c57; decide)) (fun c57 => ?_)
        refine lv_aload_n F.1 F.2.1 dL_isWidest_112 rfl (lv_at hl 9 rfl) ?_
        refine lv_iload_n F.1 F.2.1 dL_isWidest_113 rfl (lv_at hl 7 rfl) ?_
        refine lv_iload F.1 F.2.1 dL_isWidest_114 (lv_at hl 0 rfl) ?_
        refine lv_iconst (v := 0) F.1 F.2.1 dL_isWidest_116 (by decide) ?_
        refine w_calli F hP hS (k_traced l D Y ad N hI hN _ hL x (nI i) 0 hokq (by omega) (by omega)) (cwVm 3 F.2.2.2.2.1 (fun _ h => h) mw_546 mw_749 mw_544 mw_545 mw_2 rfl rfl ydX7_traced ⟨by decide, by decide⟩) (by omega) (ls_at hL) rfl rfl hl.1 rfl (Nat.le_of_ble_eq_true rfl) dL_isWidest_117 ⟨Nat.zero_le _, Nat.zero_le _⟩ (fun r2 C2 H locs hq hP hS => ?_)
        obtain ⟨hr2, hL2, hz2⟩ := hq
        have hH2 := hz2.trans hH
        have hr2 := hr2.trans ((trc_at hq hx (by decide) h4 hin hn eS).trans (if_neg (by rw [eS11]; decide)))
        subst hr2
        refine lv_istore (lv' := [(10, .int ((-6))), (9, .int (nI i)), (8, .int (1)), (7, .int (g 14 + 1)), (6, .int (du)), (5, .int (f 14)), (4, .int (nI n)), (3, .int (T_wide f 60)), (2, .int (x)), (1, .ref (ad 170)), (0, .ref (ad 0))]) F.1 F.2.1 dL_isWidest_120 hl (by decide) rfl (fun ls hl => ?_)
        refine lv_aload_n F.1 F.2.1 dL_isWidest_122 rfl (lv_at hl 10 rfl) ?_
        refine lv_iload_n F.1 F.2.1 dL_isWidest_123 rfl (lv_at hl 8 rfl) ?_
        refine lv_iload F.1 F.2.1 dL_isWidest_124 (lv_at hl 1 rfl) ?_
        refine lv_iconst (v := 1) F.1 F.2.1 dL_isWidest_126 (by decide) ?_
        refine w_calli F hP hS (k_traced l D Y ad N hI hN _ hL2 x (nI i) 1 hokq (by omega) (by omega)) (cwVm 3 F.2.2.2.2.1 (fun _ h => h) mw_546 mw_749 mw_544 mw_545 mw_2 rfl rfl ydX7_traced ⟨by decide, by decide⟩) (by omega) (ls_at hL2) rfl rfl hl.1 rfl (Nat.le_of_ble_eq_true rfl) dL_isWidest_127 ⟨Nat.zero_le _, Nat.zero_le _⟩ (fun r3 C3 H locs hq hP hS => ?_)
        obtain ⟨hr3, hL3, hz3⟩ := hq
        have hH3 := hz3.trans hH2
        have hr3 := hr3.trans ((trc_at hq hx (by decide) h4 hin hn eS).trans (if_neg (by rw [eS11]; decide)))
        subst hr3
        refine lv_istore (lv' := [(11, .int ((-6))), (10, .int ((-6))), (9, .int (nI i)), (8, .int (1)), (7, .int (g 14 + 1)), (6, .int (du)), (5, .int (f 14)), (4, .int (nI n)), (3, .int (T_wide f 60)), (2, .int (x)), (1, .ref (ad 170)), (0, .ref (ad 0))]) F.1 F.2.1 dL_isWidest_130 hl (by decide) rfl (fun ls hl => ?_)
        refine lv_aload_n F.1 F.2.1 dL_isWidest_132 rfl (lv_at hl 11 rfl) ?_
        refine lv_iload_n F.1 F.2.1 dL_isWidest_133 rfl (lv_at hl 9 rfl) ?_
        refine lv_iload F.1 F.2.1 dL_isWidest_134 (lv_at hl 2 rfl) ?_
        refine lv_iconst (v := 2) F.1 F.2.1 dL_isWidest_136 (by decide) ?_
        refine w_calli F hP hS (k_traced l D Y ad N hI hN _ hL3 x (nI i) 2 hokq (by omega) (by omega)) (cwVm 3 F.2.2.2.2.1 (fun _ h => h) mw_546 mw_749 mw_544 mw_545 mw_2 rfl rfl ydX7_traced ⟨by decide, by decide⟩) (by omega) (ls_at hL3) rfl rfl hl.1 rfl (Nat.le_of_ble_eq_true rfl) dL_isWidest_137 ⟨Nat.zero_le _, Nat.zero_le _⟩ (fun r4 C4 H locs hq hP hS => ?_)
        obtain ⟨hr4, hL4, hz4⟩ := hq
        have hH4 := hz4.trans hH3
        have hr4 := hr4.trans ((trc_at hq hx (by decide) h4 hin hn eS).trans (if_neg (by rw [eS11]; decide)))
        subst hr4
        refine lv_istore (lv' := [(12, .int ((-6))), (11, .int ((-6))), (10, .int ((-6))), (9, .int (nI i)), (8, .int (1)), (7, .int (g 14 + 1)), (6, .int (du)), (5, .int (f 14)), (4, .int (nI n)), (3, .int (T_wide f 60)), (2, .int (x)), (1, .ref (ad 170)), (0, .ref (ad 0))]) F.1 F.2.1 dL_isWidest_140 hl (by decide) rfl (fun ls hl => ?_)
        refine lv_aload_n F.1 F.2.1 dL_isWidest_142 rfl (lv_at hl 12 rfl) ?_
        refine lv_iconst (v := 5) F.1 F.2.1 dL_isWidest_143 (by decide) ?_
        refine w_calli F hP hS (k_ofHoop l D Y ad N hI hN _ hL4 5) (cwVm 1 F.2.2.2.2.1 (fun _ h => h) mw_454 mw_719 mw_452 mw_453 mw_2 rfl rfl ydX7_ofHoop ⟨by decide, by decide⟩) (by omega) (ls_at hL4) rfl rfl hl.1 rfl (Nat.le_of_ble_eq_true rfl) dL_isWidest_144 ⟨Nat.zero_le _, Nat.zero_le _⟩ (fun r5 C2 H locs hq hP hS => ?_)
        obtain ⟨hw5, hr5⟩ := hq; rw [hw5] at hP
        have hr5 := hr5.trans ((oh_5 hq5).trans hq11)
        subst hr5
        refine lv_if_ne (tgt := 158) F.1 F.2.1 dL_isWidest_147 (by decide) (fun c58 => ?_) (fun c58 => False.elim (by revert c58; decide))
        refine lv_aload_n F.1 F.2.1 dL_isWidest_158 rfl (lv_at hl 12 rfl) ?_
        refine lv_iconst (v := 5) F.1 F.2.1 dL_isWidest_159 (by decide) ?_
        refine w_calli F hP hS (k_ofHoop l D Y ad N hI hN _ hL4 5) (cwVm 1 F.2.2.2.2.1 (fun _ h => h) mw_454 mw_719 mw_452 mw_453 mw_2 rfl rfl ydX7_ofHoop ⟨by decide, by decide⟩) (by omega) (ls_at hL4) rfl rfl hl.1 rfl (Nat.le_of_ble_eq_true rfl) dL_isWidest_160 ⟨Nat.zero_le _, Nat.zero_le _⟩ (fun r6 C2 H locs hq hP hS => ?_)
        obtain ⟨hw6, hr6⟩ := hq; rw [hw6] at hP
        have hr6 := hr6.trans ((oh_5 hq5).trans hq11)
        subst hr6
        refine lv_istore (lv' := [(13, .int (2)), (12, .int ((-6))), (11, .int ((-6))), (10, .int ((-6))), (9, .int (nI i)), (8, .int (1)), (7, .int (g 14 + 1)), (6, .int (du)), (5, .int (f 14)), (4, .int (nI n)), (3, .int (T_wide f 60)), (2, .int (x)), (1, .ref (ad 170)), (0, .ref (ad 0))]) F.1 F.2.1 dL_isWidest_163 hl (by decide) rfl (fun ls hl => ?_)
        refine lv_iload F.1 F.2.1 dL_isWidest_165 (lv_at hl 0 rfl) ?_
        refine lv_if_eq (tgt := 195) F.1 F.2.1 dL_isWidest_167 (by decide) (fun c59 => False.elim (by revert c59; decide)) (fun c59 => ?_)
        refine lv_iload F.1 F.2.1 dL_isWidest_170 (lv_at hl 0 rfl) ?_
        refine lv_iconst (v := 4) F.1 F.2.1 dL_isWidest_172 (by decide) ?_
        refine lv_icmp_ne (tgt := 199) F.1 F.2.1 dL_isWidest_173 (by decide) (fun c60 => ?_) (fun c60 => False.elim (by revert c60; decide))
        refine lv_iconst (v := 0) F.1 F.2.1 dL_isWidest_199 (by decide) ?_
        refine lv_istore (lv' := [(14, .int (0)), (13, .int (2)), (12, .int ((-6))), (11, .int ((-6))), (10, .int ((-6))), (9, .int (nI i)), (8, .int (1)), (7, .int (g 14 + 1)), (6, .int (du)), (5, .int (f 14)), (4, .int (nI n)), (3, .int (T_wide f 60)), (2, .int (x)), (1, .ref (ad 170)), (0, .ref (ad 0))]) F.1 F.2.1 dL_isWidest_200 hl (by decide) rfl (fun ls hl => ?_)
        refine lv_iload F.1 F.2.1 dL_isWidest_202 (lv_at hl 0 rfl) ?_
        refine lv_if_eq (tgt := 245) F.1 F.2.1 dL_isWidest_204 (by decide) (fun c61 => ?_) (fun c61 => False.elim (by revert c61; decide))
        refine lv_iload F.1 F.2.1 dL_isWidest_245 (lv_at hl 4 rfl) ?_
        refine lv_bipush (v := (-6)) F.1 F.2.1 dL_isWidest_247 (by decide) ?_
        refine lv_icmp_ne (tgt := 270) F.1 F.2.1 dL_isWidest_249 (by decide) (fun c62 => False.elim (by revert c62; decide)) (fun c62 => ?_)
        refine lv_iload F.1 F.2.1 dL_isWidest_252 (lv_at hl 3 rfl) ?_
        refine lv_bipush (v := (-6)) F.1 F.2.1 dL_isWidest_254 (by decide) ?_
        refine lv_icmp_ne (tgt := 270) F.1 F.2.1 dL_isWidest_256 (by decide) (fun c63 => False.elim (by revert c63; decide)) (fun c63 => ?_)
        refine lv_iload F.1 F.2.1 dL_isWidest_259 (lv_at hl 2 rfl) ?_
        refine lv_bipush (v := (-6)) F.1 F.2.1 dL_isWidest_261 (by decide) ?_
        refine lv_icmp_ne (tgt := 270) F.1 F.2.1 dL_isWidest_263 (by decide) (fun c64 => False.elim (by revert c64; decide)) (fun c64 => ?_)
        refine lv_iconst (v := 1) F.1 F.2.1 dL_isWidest_266 (by decide) ?_
        refine lv_goto (tgt := 271) F.1 F.2.1 dL_isWidest_267 (by decide) ?_
        refine lv_istore (lv' := [(8, .int (1)), (14, .int (0)), (13, .int (2)), (12, .int ((-6))), (11, .int ((-6))), (10, .int ((-6))), (9, .int (nI i)), (7, .int (g 14 + 1)), (6, .int (du)), (5, .int (f 14)), (4, .int (nI n)), (3, .int (T_wide f 60)), (2, .int (x)), (1, .ref (ad 170)), (0, .ref (ad 0))]) F.1 F.2.1 dL_isWidest_271 hl (by decide) rfl (fun ls hl => ?_)
        refine lv_iinc (v := (nI i) + 1) (lv' := [(9, .int ((nI i) + 1)), (8, .int (1)), (14, .int (0)), (13, .int (2)), (12, .int ((-6))), (11, .int ((-6))), (10, .int ((-6))), (7, .int (g 14 + 1)), (6, .int (du)), (5, .int (f 14)), (4, .int (nI n)), (3, .int (T_wide f 60)), (2, .int (x)), (1, .ref (ad 170)), (0, .ref (ad 0))]) F.1 F.2.1 dL_isWidest_273 hl (k := 6) rfl rfl (by decide) rfl (fun ls hl => ?_)
        refine lv_goto (tgt := 100) F.1 F.2.1 dL_isWidest_276 (by decide) ?_
        exact ih _ (by omega) _ _ _ _ ⟨i + 1, q, rfl, hin, Or.inr (Or.inl ⟨Or.inr (Or.inl ((a2.1 11 (by decide)).trans eS11)), (by rw [eS]; exact a2)⟩), (okRow_mono (by omega) hokq), hq, hq5, hL4, hH4, (by rw [nI_succ]; exact lv_sub hl [0, 1, 7, 8, 9, 10, 11, 12, 13, 14] rfl)⟩ hP hS
      · have eS11 : S 11 = 3 := (a2.1 11 (by decide)).symm.trans hq11
        refine lv_iload F.1 F.2.1 dL_isWidest_107 (lv_at hl 1 rfl) ?_
        refine lv_if_eq (tgt := 279) F.1 F.2.1 dL_isWidest_109 (by decide) (fun c65 => False.elim (by revert c65; decide)) (fun c65 => ?_)
        refine lv_aload_n F.1 F.2.1 dL_isWidest_112 rfl (lv_at hl 9 rfl) ?_
        refine lv_iload_n F.1 F.2.1 dL_isWidest_113 rfl (lv_at hl 7 rfl) ?_
        refine lv_iload F.1 F.2.1 dL_isWidest_114 (lv_at hl 0 rfl) ?_
        refine lv_iconst (v := 0) F.1 F.2.1 dL_isWidest_116 (by decide) ?_
        refine w_calli F hP hS (k_traced l D Y ad N hI hN _ hL x (nI i) 0 hokq (by omega) (by omega)) (cwVm 3 F.2.2.2.2.1 (fun _ h => h) mw_546 mw_749 mw_544 mw_545 mw_2 rfl rfl ydX7_traced ⟨by decide, by decide⟩) (by omega) (ls_at hL) rfl rfl hl.1 rfl (Nat.le_of_ble_eq_true rfl) dL_isWidest_117 ⟨Nat.zero_le _, Nat.zero_le _⟩ (fun r2 C2 H locs hq hP hS => ?_)
        obtain ⟨hr2, hL2, hz2⟩ := hq
        have hH2 := hz2.trans hH
        have hr2 := hr2.trans ((trc_at hq hx (by decide) h4 hin hn eS).trans (if_neg (by rw [eS11]; decide)))
        subst hr2
        refine lv_istore (lv' := [(10, .int ((-6))), (9, .int (nI i)), (8, .int (1)), (7, .int (g 14 + 1)), (6, .int (du)), (5, .int (f 14)), (4, .int (nI n)), (3, .int (T_wide f 60)), (2, .int (x)), (1, .ref (ad 170)), (0, .ref (ad 0))]) F.1 F.2.1 dL_isWidest_120 hl (by decide) rfl (fun ls hl => ?_)
        refine lv_aload_n F.1 F.2.1 dL_isWidest_122 rfl (lv_at hl 10 rfl) ?_
        refine lv_iload_n F.1 F.2.1 dL_isWidest_123 rfl (lv_at hl 8 rfl) ?_
        refine lv_iload F.1 F.2.1 dL_isWidest_124 (lv_at hl 1 rfl) ?_
        refine lv_iconst (v := 1) F.1 F.2.1 dL_isWidest_126 (by decide) ?_
        refine w_calli F hP hS (k_traced l D Y ad N hI hN _ hL2 x (nI i) 1 hokq (by omega) (by omega)) (cwVm 3 F.2.2.2.2.1 (fun _ h => h) mw_546 mw_749 mw_544 mw_545 mw_2 rfl rfl ydX7_traced ⟨by decide, by decide⟩) (by omega) (ls_at hL2) rfl rfl hl.1 rfl (Nat.le_of_ble_eq_true rfl) dL_isWidest_127 ⟨Nat.zero_le _, Nat.zero_le _⟩ (fun r3 C3 H locs hq hP hS => ?_)
        obtain ⟨hr3, hL3, hz3⟩ := hq
        have hH3 := hz3.trans hH2
        have hr3 := hr3.trans ((trc_at hq hx (by decide) h4 hin hn eS).trans (if_neg (by rw [eS11]; decide)))
        subst hr3
        refine lv_istore (lv' := [(11, .int ((-6))), (10, .int ((-6))), (9, .int (nI i)), (8, .int (1)), (7, .int (g 14 + 1)), (6, .int (du)), (5, .int (f 14)), (4, .int (nI n)), (3, .int (T_wide f 60)), (2, .int (x)), (1, .ref (ad 170)), (0, .ref (ad 0))]) F.1 F.2.1 dL_isWidest_130 hl (by decide) rfl (fun ls hl => ?_)
        refine lv_aload_n F.1 F.2.1 dL_isWidest_132 rfl (lv_at hl 11 rfl) ?_
        refine lv_iload_n F.1 F.2.1 dL_isWidest_133 rfl (lv_at hl 9 rfl) ?_
        refine lv_iload F.1 F.2.1 dL_isWidest_134 (lv_at hl 2 rfl) ?_
        refine lv_iconst (v := 2) F.1 F.2.1 dL_isWidest_136 (by decide) ?_
        refine w_calli F hP hS (k_traced l D Y ad N hI hN _ hL3 x (nI i) 2 hokq (by omega) (by omega)) (cwVm 3 F.2.2.2.2.1 (fun _ h => h) mw_546 mw_749 mw_544 mw_545 mw_2 rfl rfl ydX7_traced ⟨by decide, by decide⟩) (by omega) (ls_at hL3) rfl rfl hl.1 rfl (Nat.le_of_ble_eq_true rfl) dL_isWidest_137 ⟨Nat.zero_le _, Nat.zero_le _⟩ (fun r4 C4 H locs hq hP hS => ?_)
        obtain ⟨hr4, hL4, hz4⟩ := hq
        have hH4 := hz4.trans hH3
        have hr4 := hr4.trans ((trc_at hq hx (by decide) h4 hin hn eS).trans (if_neg (by rw [eS11]; decide)))
        subst hr4
        refine lv_istore (lv' := [(12, .int ((-6))), (11, .int ((-6))), (10, .int ((-6))), (9, .int (nI i)), (8, .int (1)), (7, .int (g 14 + 1)), (6, .int (du)), (5, .int (f 14)), (4, .int (nI n)), (3, .int (T_wide f 60)), (2, .int (x)), (1, .ref (ad 170)), (0, .ref (ad 0))]) F.1 F.2.1 dL_isWidest_140 hl (by decide) rfl (fun ls hl => ?_)
        refine lv_aload_n F.1 F.2.1 dL_isWidest_142 rfl (lv_at hl 12 rfl) ?_
        refine lv_iconst (v := 5) F.1 F.2.1 dL_isWidest_143 (by decide) ?_
        refine w_calli F hP hS (k_ofHoop l D Y ad N hI hN _ hL4 5) (cwVm 1 F.2.2.2.2.1 (fun _ h => h) mw_454 mw_719 mw_452 mw_453 mw_2 rfl rfl ydX7_ofHoop ⟨by decide, by decide⟩) (by omega) (ls_at hL4) rfl rfl hl.1 rfl (Nat.le_of_ble_eq_true rfl) dL_isWidest_144 ⟨Nat.zero_le _, Nat.zero_le _⟩ (fun r5 C2 H locs hq hP hS => ?_)
        obtain ⟨hw5, hr5⟩ := hq; rw [hw5] at hP
        have hr5 := hr5.trans ((oh_5 hq5).trans hq11)
        subst hr5
        refine lv_if_ne (tgt := 158) F.1 F.2.1 dL_isWidest_147 (by decide) (fun c66 => ?_) (fun c66 => False.elim (by revert c66; decide))
        refine lv_aload_n F.1 F.2.1 dL_isWidest_158 rfl (lv_at hl 12 rfl) ?_
        refine lv_iconst (v := 5) F.1 F.2.1 dL_isWidest_159 (by decide) ?_
        refine w_calli F hP hS (k_ofHoop l D Y ad N hI hN _ hL4 5) (cwVm 1 F.2.2.2.2.1 (fun _ h => h) mw_454 mw_719 mw_452 mw_453 mw_2 rfl rfl ydX7_ofHoop ⟨by decide, by decide⟩) (by omega) (ls_at hL4) rfl rfl hl.1 rfl (Nat.le_of_ble_eq_true rfl) dL_isWidest_160 ⟨Nat.zero_le _, Nat.zero_le _⟩ (fun r6 C2 H locs hq hP hS => ?_)
        obtain ⟨hw6, hr6⟩ := hq; rw [hw6] at hP
        have hr6 := hr6.trans ((oh_5 hq5).trans hq11)
        subst hr6
        refine lv_istore (lv' := [(13, .int (3)), (12, .int ((-6))), (11, .int ((-6))), (10, .int ((-6))), (9, .int (nI i)), (8, .int (1)), (7, .int (g 14 + 1)), (6, .int (du)), (5, .int (f 14)), (4, .int (nI n)), (3, .int (T_wide f 60)), (2, .int (x)), (1, .ref (ad 170)), (0, .ref (ad 0))]) F.1 F.2.1 dL_isWidest_163 hl (by decide) rfl (fun ls hl => ?_)
        refine lv_iload F.1 F.2.1 dL_isWidest_165 (lv_at hl 0 rfl) ?_
        refine lv_if_eq (tgt := 195) F.1 F.2.1 dL_isWidest_167 (by decide) (fun c67 => False.elim (by revert c67; decide)) (fun c67 => ?_)
        refine lv_iload F.1 F.2.1 dL_isWidest_170 (lv_at hl 0 rfl) ?_
        refine lv_iconst (v := 4) F.1 F.2.1 dL_isWidest_172 (by decide) ?_
        refine lv_icmp_ne (tgt := 199) F.1 F.2.1 dL_isWidest_173 (by decide) (fun c68 => ?_) (fun c68 => False.elim (by revert c68; decide))
        refine lv_iconst (v := 0) F.1 F.2.1 dL_isWidest_199 (by decide) ?_
        refine lv_istore (lv' := [(14, .int (0)), (13, .int (3)), (12, .int ((-6))), (11, .int ((-6))), (10, .int ((-6))), (9, .int (nI i)), (8, .int (1)), (7, .int (g 14 + 1)), (6, .int (du)), (5, .int (f 14)), (4, .int (nI n)), (3, .int (T_wide f 60)), (2, .int (x)), (1, .ref (ad 170)), (0, .ref (ad 0))]) F.1 F.2.1 dL_isWidest_200 hl (by decide) rfl (fun ls hl => ?_)
        refine lv_iload F.1 F.2.1 dL_isWidest_202 (lv_at hl 0 rfl) ?_
        refine lv_if_eq (tgt := 245) F.1 F.2.1 dL_isWidest_204 (by decide) (fun c69 => ?_) (fun c69 => False.elim (by revert c69; decide))
        refine lv_iload F.1 F.2.1 dL_isWidest_245 (lv_at hl 4 rfl) ?_
        refine lv_bipush (v := (-6)) F.1 F.2.1 dL_isWidest_247 (by decide) ?_
        refine lv_icmp_ne (tgt := 270) F.1 F.2.1 dL_isWidest_249 (by decide) (fun c70 => False.elim (by revert c70; decide)) (fun c70 => ?_)
        refine lv_iload F.1 F.2.1 dL_isWidest_252 (lv_at hl 3 rfl) ?_
        refine lv_bipush (v := (-6)) F.1 F.2.1 dL_isWidest_254 (by decide) ?_
        refine lv_icmp_ne (tgt := 270) F.1 F.2.1 dL_isWidest_256 (by decide) (fun c71 => False.elim (by revert c71; decide)) (fun c71 => ?_)
        refine lv_iload F.1 F.2.1 dL_isWidest_259 (lv_at hl 2 rfl) ?_
        refine lv_bipush (v := (-6)) F.1 F.2.1 dL_isWidest_261 (by decide) ?_
        refine lv_icmp_ne (tgt := 270) F.1 F.2.1 dL_isWidest_263 (by decide) (fun c72 => False.elim (by revert c72; decide)) (fun c72 => ?_)
        refine lv_iconst (v := 1) F.1 F.2.1 dL_isWidest_266 (by decide) ?_
        refine lv_goto (tgt := 271) F.1 F.2.1 dL_isWidest_267 (by decide) ?_
        refine lv_istore (lv' := [(8, .int (1)), (14, .int (0)), (13, .int (3)), (12, .int ((-6))), (11, .int ((-6))), (10, .int ((-6))), (9, .int (nI i)), (7, .int (g 14 + 1)), (6, .int (du)), (5, .int (f 14)), (4, .int (nI n)), (3, .int (T_wide f 60)), (2, .int (x)), (1, .ref (ad 170)), (0, .ref (ad 0))]) F.1 F.2.1 dL_isWidest_271 hl (by decide) rfl (fun ls hl => ?_)
        refine lv_iinc (v := (nI i) + 1) (lv' := [(9, .int ((nI i) + 1)), (8, .int (1)), (14, .int (0)), (13, .int (3)), (12, .int ((-6))), (11, .int ((-6))), (10, .int ((-6))), (7, .int (g 14 + 1)), (6, .int (du)), (5, .int (f 14)), (4, .int (nI n)), (3, .int (T_wide f 60)), (2, .int (x)), (1, .ref (ad 170)), (0, .ref (ad 0))]) F.1 F.2.1 dL_isWidest_273 hl (k := 6) rfl rfl (by decide) rfl (fun ls hl => ?_)
        refine lv_goto (tgt := 100) F.1 F.2.1 dL_isWidest_276 (by decide) ?_
        exact ih _ (by omega) _ _ _ _ ⟨i + 1, q, rfl, hin, Or.inr (Or.inl ⟨Or.inr (Or.inr ((a2.1 11 (by decide)).trans eS11)), (by rw [eS]; exact a2)⟩), (okRow_mono (by omega) hokq), hq, hq5, hL4, hH4, (by rw [nI_succ]; exact lv_sub hl [0, 1, 7, 8, 9, 10, 11, 12, 13, 14] rfl)⟩ hP hS
    · exact absurd hin2 (by omega)
set_option maxRecDepth 20000 in
set_option maxHeartbeats 4000000 in
/-- the widest hoop, and traces -/
theorem c_L_isWidest (l : Launch) (D : va_G) (Y : Nat → ClassId) (ad : Nat → Nat) (N : Nat) (hI : wI ad N) (C : Nat → va_E) (hN : 171 ≤ N) {f : Nat → Int32} {sl : Nat → Nat → Int32} {sv : Nat → Int32} (hL : kLS Y ad C f sl sv) {hv : Nat → Int32} (hH : C 170 = .inl (Y 0, 8, .inl hv)) {B : Int} (hJ : J B f) (hB0 : 0 ≤ B) (hB : B + 5000 ≤ 900000000) (x : Int32) (hx : 1 ≤ x ∧ x ≤ 60) : Met l yL_isWidest (wm yL_isWidest cL_isWidest 15 (some .boolean)) { frames := 7, cells := 0, slots := 0, locals := 151 } (wPc D Y ad N [.ref (ad 0), .ref (ad 170), .int (x)] C) (wQi D ad N (fun r C' => r = 1 ∧ kLT Y ad C' f (va_up sl 0 f) (upd sv 0 1))) 0 0 (wA ad N) := by
  obtain ⟨n, h4, hn, e4n⟩ := n_at hJ.1
  have hok := hJ.1
  have h14b := hJ.2.2.2.2.1
  have h14c : 0 ≤ (f 14).toInt := by have a := hJ.2.2.1; have b := hJ.2.2.2.1; have r := rlg_in f; have z : enS f = (f 15).toInt + (f 16).toInt + (f 17).toInt + (f 18).toInt := rfl; omega
  refine wMet RL rfl (by decide +kernel) (Nat.le_of_ble_eq_true rfl) (lv := [(0, .ref (ad 0)), (1, .ref (ad 170)), (2, .int (x))]) rfl ?_
  intro p e s m below meth c ls F hr hlocks hP hl
  have hS : va_S (wA ad N) s.heap s.heap [] := va_S.rf
  refine lv_aload_n F.1 F.2.1 dL_isWidest_0 rfl (lv_at hl 0 rfl) ?_
  refine w_calli F hP hS (k_widest l D Y ad N hI hN _ hL hJ.1 (by omega) hB0) (cwVm 0 F.2.2.2.2.1 (fun _ h => h) mw_524 mw_748 mw_522 mw_523 mw_2 rfl rfl ydX7_widest ⟨by decide, by decide⟩) (by omega) (ls_at hL) rfl rfl hl.1 rfl (Nat.le_of_ble_eq_true rfl) dL_isWidest_1 ⟨Nat.zero_le _, Nat.zero_le _⟩ (fun r1 C1 H locs hq hP hS => ?_)
  obtain ⟨hr1, hL1, hz1⟩ := hq
  have hH1 := hz1.trans hH
  subst hr1
  refine lv_istore_n (lv' := [(3, .int (T_wide f 60)), (0, .ref (ad 0)), (1, .ref (ad 170)), (2, .int (x))]) F.1 F.2.1 dL_isWidest_4 rfl hl (by decide) rfl (fun ls hl => ?_)
  refine lv_aload_n F.1 F.2.1 dL_isWidest_5 rfl (lv_at hl 1 rfl) ?_
  refine lv_iconst (v := 0) F.1 F.2.1 dL_isWidest_6 (by decide) ?_
  refine w_calli F hP hS (k_save l D Y ad N hI hN _ hL1 0 (by decide)) (cwVm 1 F.2.2.2.2.1 (fun _ h => h) mw_690 mw_742 mw_688 mw_689 mw_2 rfl rfl ydX7_save ⟨by decide, by decide⟩) (by omega) (ls_at hL1) rfl rfl hl.1 rfl (Nat.le_of_ble_eq_true rfl) dL_isWidest_7 ⟨Nat.zero_le _, Nat.zero_le _⟩ (fun r2 C2 H locs hq hP hS => ?_)
  obtain ⟨hr2, hL2, hz2⟩ := hq
  have hH2 := hz2.trans hH1
  have hr2 := hr2.trans h4
  subst hr2
  refine lv_istore (lv' := [(4, .int (nI n)), (3, .int (T_wide f 60)), (0, .ref (ad 0)), (1, .ref (ad 170)), (2, .int (x))]) F.1 F.2.1 dL_isWidest_10 hl (by decide) rfl (fun ls hl => ?_)
  refine lv_aload_n F.1 F.2.1 dL_isWidest_12 rfl (lv_at hl 2 rfl) ?_
  refine lv_iconst (v := 1) F.1 F.2.1 dL_isWidest_13 (by decide) ?_
  refine w_calli F hP hS (k_count l D Y ad N hI hN _ hL2 1 (by decide) hJ.1) (cwVm 1 F.2.2.2.2.1 (fun _ h => h) mw_482 mw_716 mw_480 mw_481 mw_2 rfl rfl ydX7_count ⟨by decide, by decide⟩) (by omega) (ls_at hL2) rfl rfl hl.1 rfl (Nat.le_of_ble_eq_true rfl) dL_isWidest_14 ⟨Nat.zero_le _, Nat.zero_le _⟩ (fun r3 C2 H locs hq hP hS => ?_)
  obtain ⟨hw3, hr3⟩ := hq; rw [hw3] at hP
  have hr3 := hr3.trans cn_1
  subst hr3
  refine lv_istore (lv' := [(5, .int (f 14)), (4, .int (nI n)), (3, .int (T_wide f 60)), (0, .ref (ad 0)), (1, .ref (ad 170)), (2, .int (x))]) F.1 F.2.1 dL_isWidest_17 hl (by decide) rfl (fun ls hl => ?_)
  refine lv_bipush (v := (-6)) F.1 F.2.1 dL_isWidest_19 (by decide) ?_
  refine lv_istore (lv' := [(6, .int ((-6))), (5, .int (f 14)), (4, .int (nI n)), (3, .int (T_wide f 60)), (0, .ref (ad 0)), (1, .ref (ad 170)), (2, .int (x))]) F.1 F.2.1 dL_isWidest_21 hl (by decide) rfl (fun ls hl => ?_)
  refine lv_bipush (v := 60) F.1 F.2.1 dL_isWidest_23 (by decide) ?_
  refine lv_istore (lv' := [(7, .int (60)), (6, .int ((-6))), (5, .int (f 14)), (4, .int (nI n)), (3, .int (T_wide f 60)), (0, .ref (ad 0)), (1, .ref (ad 170)), (2, .int (x))]) F.1 F.2.1 dL_isWidest_25 hl (by decide) rfl (fun ls hl => ?_)
  refine w_loop (Inv := fun j ls C' => ∃ (k : Nat) (g : Nat → Int32) (du : Int32), j = k ∧ k ≤ 60 ∧ agS g f ∧ okRow B g ∧ ((f 14).toInt ≤ (g 14).toInt ∧ (g 14).toInt ≤ (f 14).toInt + (60 - (k : Int))) ∧ kLS Y ad C' g (va_up sl 0 f) (upd sv 0 1) ∧ C' 170 = .inl (Y 0, 8, .inl hv) ∧ ((du = -6 ∧ T_wide f k = T_wide f 60) ∨ (du = T_wide f 60 ∧ 0 ≤ du)) ∧ lv_has ls 15 [(7, .int (nI k)), (6, .int du), (5, .int (f 14)), (4, .int (nI n)), (3, .int (T_wide f 60)), (2, .int x), (1, .ref (ad 170)), (0, .ref (ad 0))]) ?_ 60 ⟨60, f, -6, rfl, Nat.le_refl _, ⟨fun _ _ => rfl, fun _ => ⟨rfl, rfl⟩⟩, hok, ⟨Int.le_refl _, by omega⟩, hL2, hH2, Or.inl ⟨rfl, rfl⟩, lv_sub hl [0, 1, 2, 3, 4, 7, 6, 5] rfl⟩ hP hS
  intro j ih H locs ls K0 hInv hP hS
  obtain ⟨k, g, du, hj, hk, hag, hokg, h14, hL, hH, hDD, hl⟩ := hInv
  refine lv_iload F.1 F.2.1 dL_isWidest_27 (lv_at hl 0 rfl) ?_
  rcases hDD with ⟨ed, hT⟩ | ⟨ed, hd0⟩
  · subst ed
    refine lv_if_le (tgt := 78) F.1 F.2.1 dL_isWidest_29 (by decide) (fun c1 => ?_) (fun c1 => ?_)
    · have hk0 : 0 = k := by have q : ¬ 0 < k := fun z => nI_nle z (by omega) c1; omega
      subst hk0
      have hD : T_wide f 60 = -6 := hT.symm
      exact iw_tail hI hN F hr hlocks hP hS hL hH hJ hokg hB0 hB hag ⟨h14.1, by omega⟩ hx h4 hn hD (lv_sub hl [0, 1, 2, 3, 4, 5, 6, 7] rfl)
    · refine lv_iload F.1 F.2.1 dL_isWidest_32 (lv_at hl 1 rfl) ?_
      refine lv_if_ge (tgt := 78) F.1 F.2.1 dL_isWidest_34 (by decide) (fun c2 => False.elim (by revert c2; decide)) (fun c2 => ?_)
      obtain ⟨k, rfl⟩ : ∃ z, k = z + 1 := ⟨k - 1, by have q : ¬ k = 0 := fun z => c1 (by rw [z]; decide); omega⟩
      refine lv_aload_n F.1 F.2.1 dL_isWidest_37 rfl (lv_at hl 7 rfl) ?_
      refine lv_iload F.1 F.2.1 dL_isWidest_38 (lv_at hl 0 rfl) ?_
      refine w_calli F hP hS (k_hoop l D Y ad N hI hN _ hL (nI (k + 1)) ⟨nI_le (a := 1) (by omega) (by omega), nI_le (b := 60) (by omega) (by decide)⟩ hokg (by omega)) (cwVm 1 F.2.2.2.2.1 (fun _ h => h) mw_255 mw_735 mw_253 mw_254 mw_2 rfl rfl ydX7_hoop ⟨by decide, by decide⟩) (by omega) (ls_at hL) rfl rfl hl.1 rfl (Nat.le_of_ble_eq_true rfl) dL_isWidest_40 ⟨Nat.zero_le _, Nat.zero_le _⟩ (fun r4 C4 H locs hq hP hS => ?_)
      obtain ⟨hr4, hL4, hz4⟩ := hq
      have hH4 := hz4.trans hH
      subst hr4
      have hok1 : okRow B (T_run (nI (k + 1)) g) := okRow_run _ hB0 hokg
      refine lv_istore (lv' := [(8, .int (g 14 + 1)), (7, .int (nI (k + 1))), (6, .int ((-6))), (5, .int (f 14)), (4, .int (nI n)), (3, .int (T_wide f 60)), (2, .int (x)), (1, .ref (ad 170)), (0, .ref (ad 0))]) F.1 F.2.1 dL_isWidest_43 hl (by decide) rfl (fun ls hl => ?_)
      refine lv_aload_n F.1 F.2.1 dL_isWidest_45 rfl (lv_at hl 8 rfl) ?_
      refine lv_iconst (v := 0) F.1 F.2.1 dL_isWidest_46 (by decide) ?_
      refine w_calli F hP hS (k_ifRolled l D Y ad N hI hN _ hL4 0 hok1 (by omega) hB0) (cwVm 1 F.2.2.2.2.1 (fun _ h => h) mw_509 mw_743 mw_507 mw_508 mw_2 rfl rfl ydX7_ifRolled ⟨by decide, by decide⟩) (by omega) (ls_at hL4) rfl rfl hl.1 rfl (Nat.le_of_ble_eq_true rfl) dL_isWidest_47 ⟨Nat.zero_le _, Nat.zero_le _⟩ (fun r5 C5 H locs hq hP hS => ?_)
      obtain ⟨hr5, hL5, hz5⟩ := hq
      have hH5 := hz5.trans hH4
      have hr5 := hr5.trans ((ifr_0 rfl rfl).trans ((ag_roll 20 (ag_run (nI (k + 1)) hag)).1.1 11 (by decide)))
      subst hr5
      refine lv_iconst (v := 4) F.1 F.2.1 dL_isWidest_50 (by decide) ?_
      refine lv_icmp_ne (tgt := 59) F.1 F.2.1 dL_isWidest_51 (by decide) (fun c3 => ?_) (fun c3 => ?_)
      · refine lv_iload F.1 F.2.1 dL_isWidest_59 (lv_at hl 2 rfl) ?_
        refine lv_istore (lv' := [(6, .int ((-6))), (8, .int (g 14 + 1)), (7, .int (nI (k + 1))), (5, .int (f 14)), (4, .int (nI n)), (3, .int (T_wide f 60)), (2, .int (x)), (1, .ref (ad 170)), (0, .ref (ad 0))]) F.1 F.2.1 dL_isWidest_61 hl (by decide) rfl (fun ls hl => ?_)
        have g14n : (f 14).toInt ≤ (T_run (nI (k + 1)) g 14).toInt ∧ (T_run (nI (k + 1)) g 14).toInt ≤ (f 14).toInt + (60 - (k : Int)) := by have e : T_run (nI (k + 1)) g 14 = g 14 + 1 := rfl; have o : (1 : Int32).toInt = 1 := rfl; rw [e, i_add (by omega) (by omega)]; omega
        refine lv_iload F.1 F.2.1 dL_isWidest_63 (lv_at hl 1 rfl) ?_
        refine lv_iload F.1 F.2.1 dL_isWidest_65 (lv_at hl 3 rfl) ?_
        refine lv_icmp_ge (tgt := 72) F.1 F.2.1 dL_isWidest_67 (by decide) (fun c4 => ?_) (fun c4 => False.elim (c4 (Int32.le_iff_toInt_le.mpr g14n.1)))
        refine lv_iinc (v := (nI (k + 1)) + (-1)) (lv' := [(7, .int ((nI (k + 1)) + (-1))), (6, .int ((-6))), (8, .int (g 14 + 1)), (5, .int (f 14)), (4, .int (nI n)), (3, .int (T_wide f 60)), (2, .int (x)), (1, .ref (ad 170)), (0, .ref (ad 0))]) F.1 F.2.1 dL_isWidest_72 hl (k := 2) rfl rfl (by decide) rfl (fun ls hl => ?_)
        refine lv_goto (tgt := 27) F.1 F.2.1 dL_isWidest_75 (by decide) ?_
        exact ih _ (by omega) _ _ _ _ ⟨k, T_run (nI (k + 1)) g, -6, rfl, by omega, agS_tr agS_run hag, hok1, g14n, hL5, hH5, Or.inl ⟨rfl, (if_neg c3).symm.trans hT⟩, (by rw [← nI_dec k]; exact lv_sub hl [0, 1, 3, 4, 5, 6, 7, 8] rfl)⟩ hP hS
      · refine lv_iload F.1 F.2.1 dL_isWidest_54 (lv_at hl 1 rfl) ?_
        refine lv_goto (tgt := 61) F.1 F.2.1 dL_isWidest_56 (by decide) ?_
        refine lv_istore (lv' := [(6, .int (nI (k + 1))), (8, .int (g 14 + 1)), (7, .int (nI (k + 1))), (5, .int (f 14)), (4, .int (nI n)), (3, .int (T_wide f 60)), (2, .int (x)), (1, .ref (ad 170)), (0, .ref (ad 0))]) F.1 F.2.1 dL_isWidest_61 hl (by decide) rfl (fun ls hl => ?_)
        have g14n : (f 14).toInt ≤ (T_run (nI (k + 1)) g 14).toInt ∧ (T_run (nI (k + 1)) g 14).toInt ≤ (f 14).toInt + (60 - (k : Int)) := by have e : T_run (nI (k + 1)) g 14 = g 14 + 1 := rfl; have o : (1 : Int32).toInt = 1 := rfl; rw [e, i_add (by omega) (by omega)]; omega
        refine lv_iload F.1 F.2.1 dL_isWidest_63 (lv_at hl 1 rfl) ?_
        refine lv_iload F.1 F.2.1 dL_isWidest_65 (lv_at hl 3 rfl) ?_
        refine lv_icmp_ge (tgt := 72) F.1 F.2.1 dL_isWidest_67 (by decide) (fun c5 => ?_) (fun c5 => False.elim (c5 (Int32.le_iff_toInt_le.mpr g14n.1)))
        refine lv_iinc (v := (nI (k + 1)) + (-1)) (lv' := [(7, .int ((nI (k + 1)) + (-1))), (6, .int (nI (k + 1))), (8, .int (g 14 + 1)), (5, .int (f 14)), (4, .int (nI n)), (3, .int (T_wide f 60)), (2, .int (x)), (1, .ref (ad 170)), (0, .ref (ad 0))]) F.1 F.2.1 dL_isWidest_72 hl (k := 2) rfl rfl (by decide) rfl (fun ls hl => ?_)
        refine lv_goto (tgt := 27) F.1 F.2.1 dL_isWidest_75 (by decide) ?_
        exact ih _ (by omega) _ _ _ _ ⟨k, T_run (nI (k + 1)) g, nI (k + 1), rfl, by omega, agS_tr agS_run hag, hok1, g14n, hL5, hH5, Or.inr ⟨(if_pos c3).symm.trans hT, nI_le (a := 0) (Nat.zero_le _) (by omega)⟩, (by rw [← nI_dec k]; exact lv_sub hl [0, 1, 3, 4, 5, 6, 7, 8] rfl)⟩ hP hS
  · have hD : T_wide f 60 = du := ed.symm
    refine lv_if_le (tgt := 78) F.1 F.2.1 dL_isWidest_29 (by decide) (fun c6 => ?_) (fun c6 => ?_)
    · exact iw_tail hI hN F hr hlocks hP hS hL hH hJ hokg hB0 hB hag ⟨h14.1, by omega⟩ hx h4 hn hD (lv_sub hl [0, 1, 2, 3, 4, 5, 6, 7] rfl)
    · refine lv_iload F.1 F.2.1 dL_isWidest_32 (lv_at hl 1 rfl) ?_
      refine lv_if_ge (tgt := 78) F.1 F.2.1 dL_isWidest_34 (by decide) (fun c7 => ?_) (fun c7 => False.elim (c7 hd0))
      exact iw_tail hI hN F hr hlocks hP hS hL hH hJ hokg hB0 hB hag ⟨h14.1, by omega⟩ hx h4 hn hD (lv_sub hl [0, 1, 2, 3, 4, 5, 6, 7] rfl)
