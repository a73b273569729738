/-! What holds of a row, and goes on holding -/
theorem okS_row2 {f f1 : Nat → Int32} (h : okS f) (r : ∀ q, q < 5 → f1 q = f q) (r2 : ∀ k, k < 20 → f1 (62 + 5 * k) = f (62 + 5 * k)) : okS f1 := by
  unfold okS
  rw [r 0 (by decide), r 1 (by decide), r 2 (by decide), r 3 (by decide), r 4 (by decide)]
  exact ⟨h.1, h.2.1, h.2.2.1, h.2.2.2.1, h.2.2.2.2.1, fun k hk => by rw [r2 k hk]; exact h.2.2.2.2.2 k hk⟩
theorem okH_of {B : Int} {f f1 : Nat → Int32} (h : okH B f) (r : ∀ q, q = 4 ∨ (7 ≤ q ∧ q ≤ 11) → f1 q = f q) : okH B f1 := by
  unfold okH
  rw [r 4 (by decide), r 7 (by decide), r 8 (by decide), r 9 (by decide), r 10 (by decide), r 11 (by decide)]
  exact h
theorem okH_mono {B B' : Int} {f : Nat → Int32} (hb : B ≤ B') (h : okH B f) : okH B' f := ⟨h.1, ⟨by have := h.2.1.1; omega, by have := h.2.1.2; omega⟩, h.2.2.1, h.2.2.2.1, h.2.2.2.2⟩
theorem okRow_mono {B B' : Int} {f : Nat → Int32} (hb : B ≤ B') (h : okRow B f) : okRow B' f := ⟨h.1, h.2.1, fun q => okH_mono hb (h.2.2.1 q), h.2.2.2⟩
theorem okRow_set {B : Int} {f : Nat → Int32} {k : Nat} {v : Int32} (h : okRow B f) (hk : k < 4) (hc : T_can (nI k) v) : okRow B (upd f k v) := by
  obtain ⟨hs, h5, hh, h20⟩ := h
  have hr := (can_iff hk).mp hc
  have a := Int32.le_iff_toInt_le.mp hr.1
  have b := Int32.le_iff_toInt_le.mp hr.2
  refine ⟨?_, by rw [upd_n (by omega)]; exact h5, fun q => okH_of (hh (by rw [upd_n (by omega)] at q; exact q)) (fun q hq => upd_n (by omega)), by rw [upd_n (by omega)]; exact h20⟩
  have e : k = 0 ∨ k = 1 ∨ k = 2 ∨ k = 3 := by omega
  have s5 : ∀ j, j < 20 → 0 ≤ (upd f k v (62 + 5 * j)).toInt ∧ (upd f k v (62 + 5 * j)).toInt ≤ 99 := fun j hj => by rw [upd_n (by omega)]; exact hs.2.2.2.2.2 j hj
  rcases e with e | e | e | e <;> subst e
  · exact ⟨⟨a, b⟩, hs.2.1, hs.2.2.1, hs.2.2.2.1, hs.2.2.2.2.1, s5⟩
  · exact ⟨hs.1, ⟨a, b⟩, hs.2.2.1, hs.2.2.2.1, hs.2.2.2.2.1, s5⟩
  · exact ⟨hs.1, hs.2.1, ⟨a, b⟩, hs.2.2.2.1, hs.2.2.2.2.1, s5⟩
  · exact ⟨hs.1, hs.2.1, hs.2.2.1, ⟨a, b⟩, hs.2.2.2.2.1, s5⟩
theorem okRow_ins {B : Int} {f : Nat → Int32} {k m : Nat} {kd v : Int32} (h : okRow B f) (hm : m < 20) (h4 : f 4 = nI m) (hp : 0 ≤ kd ∧ kd ≤ 2 ∧ 1 ≤ v ∧ v ≤ (if kd = 2 then 99 else 9)) : okRow B (T_insert k kd v f) := by
  obtain ⟨hs, h5, hh, h20⟩ := h
  have e5 : T_insert k kd v f 5 = 0 := rfl
  have e4 : T_insert k kd v f 4 = f 4 + 1 := rfl
  have ev : 0 ≤ v.toInt ∧ v.toInt ≤ 99 := by
    have a := Int32.le_iff_toInt_le.mp hp.2.2.1
    have z : (1 : Int32).toInt = 1 := rfl
    by_cases c : kd = 2
    · have b := hp.2.2.2
      rw [if_pos c] at b
      have b := Int32.le_iff_toInt_le.mp b
      have t : (99 : Int32).toInt = 99 := rfl
      omega
    · have b := hp.2.2.2
      rw [if_neg c] at b
      have b := Int32.le_iff_toInt_le.mp b
      have t : (9 : Int32).toInt = 9 := rfl
      omega
  refine ⟨⟨?_, ?_, ?_, ?_, ?_, ?_⟩, Or.inl e5, fun q => absurd (e5.symm.trans q) (by decide), by rw [ins_out (by omega) (by omega) (by omega)]; exact h20⟩
  · rw [ins_out (by omega) (by omega) (by omega)]; exact hs.1
  · rw [ins_out (by omega) (by omega) (by omega)]; exact hs.2.1
  · rw [ins_out (by omega) (by omega) (by omega)]; exact hs.2.2.1
  · rw [ins_out (by omega) (by omega) (by omega)]; exact hs.2.2.2.1
  · rw [e4, h4, ← nI_succ, nI_toInt (by omega)]; omega
  · intro j hj
    unfold T_insert
    rw [if_neg (by omega), if_neg (by omega), if_neg (by omega)]
    by_cases a : 62 + 5 * j = 62 + 5 * k
    · rw [if_pos a]; exact ev
    · rw [if_neg a, if_neg (by omega)]
      by_cases b : 66 + 5 * k ≤ 62 + 5 * j ∧ 62 + 5 * j < 66 + 5 * (f 4).toNatClampNeg
      · rw [if_pos b, show 62 + 5 * j - 5 = 62 + 5 * (j - 1) by omega]; exact hs.2.2.2.2.2 _ (by omega)
      · rw [if_neg b]; exact hs.2.2.2.2.2 _ hj
theorem okRow_rem {B : Int} {f : Nat → Int32} {k m : Nat} (h : okRow B f) (hk : k < m) (hm : m ≤ 20) (h4 : f 4 = nI m) : okRow B (T_remove k f) := by
  obtain ⟨hs, h5, hh, h20⟩ := h
  have e5 : T_remove k f 5 = 0 := rfl
  have e4 : T_remove k f 4 = f 4 - 1 := rfl
  refine ⟨⟨?_, ?_, ?_, ?_, ?_, ?_⟩, Or.inl e5, fun q => absurd (e5.symm.trans q) (by decide), by rw [rem_out (by omega) (by omega) (by omega)]; exact h20⟩
  · rw [rem_out (by omega) (by omega) (by omega)]; exact hs.1
  · rw [rem_out (by omega) (by omega) (by omega)]; exact hs.2.1
  · rw [rem_out (by omega) (by omega) (by omega)]; exact hs.2.2.1
  · rw [rem_out (by omega) (by omega) (by omega)]; exact hs.2.2.2.1
  · obtain ⟨m, rfl⟩ : ∃ q, m = q + 1 := ⟨m - 1, by omega⟩
    rw [e4, h4, nI_pred, nI_toInt (by omega)]; omega
  · intro j hj
    unfold T_remove
    rw [if_neg (by omega), if_neg (by omega), h4, nI_clamp (by omega)]
    by_cases b : 61 + 5 * k ≤ 62 + 5 * j ∧ 62 + 5 * j < 56 + 5 * m
    · rw [if_pos b, show 62 + 5 * j + 5 = 62 + 5 * (j + 1) by omega]; exact hs.2.2.2.2.2 _ (by omega)
    · rw [if_neg b]; exact hs.2.2.2.2.2 _ hj
theorem okRow_run {B : Int} {f : Nat → Int32} (x : Int32) (hB : 0 ≤ B) (h : okRow B f) : okRow B (T_run x f) := by
  have r : ∀ q, q < 5 ∨ 14 < q → T_run x f q = f q := fun q hq => by unfold T_run; rw [upd_n (by omega)]; exact begin_out (by omega)
  exact ⟨okS_row h.1 (fun q hq => r q (by omega)), Or.inr rfl, fun _ => okH_of (okH_begin x hB h.1) (fun q hq => by unfold T_run; rw [upd_n (by omega)]), by rw [r 20 (by omega)]; exact h.2.2.2⟩
theorem okRow_tap {B : Int} {f : Nat → Int32} (x : Int32) (hB : B + 30 ≤ 900000000) (h : okRow B f) : okRow (B + 30) (T_tapp x f) := by
  have r : ∀ q, q ≠ 8 ∧ q ≠ 9 ∧ q ≠ 12 → q ≠ 19 → T_tapp x f q = f q := fun q hq h19 => by unfold T_tapp; rw [upd_n h19]; exact tap_out hq
  exact ⟨okS_row h.1 (fun q hq => r q (by omega) (by omega)), by rw [r 5 (by decide) (by decide)]; exact h.2.1, fun q => okH_of (okH_tap x hB h.1 (h.2.2.1 (by rw [r 5 (by decide) (by decide)] at q; exact q))) (fun q hq => by unfold T_tapp; rw [upd_n (by omega)]), by rw [r 20 (by decide) (by decide)]; exact h.2.2.2⟩
theorem okRow_push {B : Int} {f : Nat → Int32} (h : okRow B f) : okRow B (T_push f) := by
  have r : ∀ q, q ≠ 7 → q ≠ 13 → T_push f q = f q := fun q a b => by unfold T_push; rw [upd_n b, upd_n a]
  have e7 : T_push f 7 = mn99 (f 7 + 5) := rfl
  refine ⟨okS_row h.1 (fun q hq => r q (by omega) (by omega)), by rw [r 5 (by decide) (by decide)]; exact h.2.1, fun q => ?_, by rw [r 20 (by decide) (by decide)]; exact h.2.2.2⟩
  have hh := h.2.2.1 (by rw [r 5 (by decide) (by decide)] at q; exact q)
  have t : (5 : Int32).toInt = 5 := rfl
  have h7 := hh.1
  have a := i_add (a := f 7) (b := 5) (by omega) (by omega)
  unfold okH
  rw [e7, r 8 (by decide) (by decide), r 9 (by decide) (by decide), r 10 (by decide) (by decide), r 11 (by decide) (by decide), r 4 (by decide) (by decide)]
  exact ⟨mn99_in (by omega), hh.2⟩
theorem okRow_ends {B : Int} {f : Nat → Int32} (h : okRow B f) (hE : endedOk f) : okRow B (T_ends f) := by
  have key : ∀ F : Nat → Int32, (∀ q, q < 14 ∨ q = 20 → F q = f q) → (∀ k, k < 20 → F (62 + 5 * k) = f (62 + 5 * k)) → okRow B (T_lists F) := by
    intro F h1 h2
    have r : ∀ q, q < 14 → T_lists F q = f q := fun q hq => (lists_out (by omega)).trans (h1 q (by omega))
    refine ⟨okS_row2 h.1 (fun q hq => r q (by omega)) (fun k hk => (lists_out (by omega)).trans (h2 k hk)), by rw [r 5 (by decide)]; exact h.2.1, fun q => okH_of (h.2.2.1 (by rw [r 5 (by decide)] at q; exact q)) (fun q hq => r q (by omega)), ?_⟩
    have e : T_lists F 20 = F 20 + (if F 20 < 10 then 1 else 0) := rfl
    rw [e, h1 20 (by decide)]
    have h20 := h.2.2.2
    have t : (10 : Int32).toInt = 10 := rfl
    have o : (1 : Int32).toInt = 1 := rfl
    by_cases c : f 20 < 10
    · have c' := Int32.lt_iff_toInt_lt.mp c
      rw [if_pos c, i_add (by omega) (by omega)]; omega
    · rw [if_neg c, Int32.add_zero]; omega
  rcases hE with h11 | ⟨k, we, hk, -, h1, h3, h10, h11⟩
  · rw [ends_p h11]
    exact key _ (fun q hq => upd_n (by omega)) (fun k hk => upd_n (by omega))
  · rw [ends_a h10 h11 hk h1 h3]
    exact key _ (fun q hq => by rw [upd_n (by omega), upd_n (by omega)]) (fun k hk => by rw [upd_n (by omega), upd_n (by omega)])
theorem okRow_roll {B : Int} {f : Nat → Int32} {g : Int32} (n : Nat) (hB : B + 25 * n ≤ 900000000) (h : okRow B f) (h5 : f 5 = 1) (h11 : f 11 = 0) : okRow (B + 25 * n) (T_rolled n f g) := by
  have hhow := roll_how n (g := g) h.1 (h.2.2.1 h5) hB (Or.inl h11)
  have r : ∀ q, q ≠ 7 → q ≠ 8 → q ≠ 9 → q ≠ 10 → q ≠ 11 → (T_roll n f g).1 q = f q := fun q a b c d e => T_roll_fr n a b c d e
  have ok1 : okRow (B + 25 * n) (T_roll n f g).1 := ⟨okS_row h.1 (fun q hq => r q (by omega) (by omega) (by omega) (by omega) (by omega)), by rw [r 5 (by decide) (by decide) (by decide) (by decide) (by decide)]; exact h.2.1, fun _ => hhow.1, by rw [r 20 (by decide) (by decide) (by decide) (by decide) (by decide)]; exact h.2.2.2⟩
  by_cases c : (T_roll n f g).1 11 = 0
  · rw [rolled_out c]; exact ok1
  · rw [rolled_end c]; exact okRow_ends ok1 (hhow.2.resolve_left c)
/-- may an order be carried out; what it does -/
def T_err (f : Nat → Int32) (lt nu : Int32) : Int32 := if lt = 60 then T_te 0 f else if lt = 62 then T_te 1 f else if lt = 100 then T_pe (f 4) 0 nu f else if lt = 103 then T_pe (f 4) 2 nu f else if lt = 104 then (if 1 ≤ nu ∧ nu ≤ 60 then 0 else -2) else if lt = 108 then T_pe (f 4) 1 nu f else if lt = 114 then T_re nu f else T_pu f
def T_do (f : Nat → Int32) (lt nu : Int32) : Nat → Int32 := if lt = 60 then T_tapp 0 f else if lt = 62 then T_tapp 1 f else if lt = 100 then T_insert (f 4).toNatClampNeg 0 nu f else if lt = 103 then T_insert (f 4).toNatClampNeg 2 nu f else if lt = 104 then T_run nu f else if lt = 108 then T_insert (f 4).toNatClampNeg 1 nu f else if lt = 114 then T_rolled nu.toNatClampNeg f 0 else T_push f
theorem okRow_do {B : Int} {f : Nat → Int32} {lt nu : Int32} (hB0 : 0 ≤ B) (hB : B + 600 ≤ 900000000) (h : okRow B f) (he : T_err f lt nu = 0) : okRow (B + 525) (T_do f lt nu) := by
  unfold T_err at he
  unfold T_do
  have ins : ∀ kd, T_pe (f 4) kd nu f = 0 → okRow (B + 525) (T_insert (f 4).toNatClampNeg kd nu f) := fun kd q => by
    obtain ⟨kp, n4, ek, hk4, hn4, h4, hcl, hokp⟩ := pe_0 q h.1
    exact okRow_mono (by omega) (okRow_ins h hn4 h4 hokp)
  by_cases a1 : lt = 60
  · rw [if_pos a1]; exact okRow_mono (by omega) (okRow_tap 0 (by omega) h)
  rw [if_neg a1] at he ⊢
  by_cases a2 : lt = 62
  · rw [if_pos a2]; exact okRow_mono (by omega) (okRow_tap 1 (by omega) h)
  rw [if_neg a2] at he ⊢
  by_cases a3 : lt = 100
  · rw [if_pos a3] at he ⊢; exact ins 0 he
  rw [if_neg a3] at he ⊢
  by_cases a4 : lt = 103
  · rw [if_pos a4] at he ⊢; exact ins 2 he
  rw [if_neg a4] at he ⊢
  by_cases a5 : lt = 104
  · rw [if_pos a5]; exact okRow_mono (by omega) (okRow_run nu hB0 h)
  rw [if_neg a5] at he ⊢
  by_cases a6 : lt = 108
  · rw [if_pos a6] at he ⊢; exact ins 1 he
  rw [if_neg a6] at he ⊢
  by_cases a7 : lt = 114
  · rw [if_pos a7] at he ⊢
    obtain ⟨kp, hk1, hk20, ek, hcl, h5, h11⟩ := re_0 he
    rw [hcl]
    exact okRow_mono (by omega) (okRow_roll kp (by omega) h h5 h11)
  rw [if_neg a7]
  exact okRow_mono (by omega) (okRow_push h)

