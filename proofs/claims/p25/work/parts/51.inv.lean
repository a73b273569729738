/-! p25: what holds of a row in every state, beyond okRow: its parts, its counters, its list of runs -/
def okP (B : Int) (f : Nat → Int32) (k : Nat) : Prop :=
  (kindAt f k = 0 ∨ kindAt f k = 1 ∨ kindAt f k = 2) ∧ (1 ≤ (valAt f k).toInt ∧ (valAt f k).toInt ≤ (if kindAt f k = 2 then 99 else 9)) ∧ (f (64 + 5 * k) = 0 ∨ kindAt f k = 2) ∧ (f (65 + 5 * k) = 0 ∨ kindAt f k = 1) ∧ (0 ≤ (f (63 + 5 * k)).toInt ∧ (f (63 + 5 * k)).toInt ≤ B)
def rlg (f : Nat → Int32) : Int := if f 5 = 1 ∧ f 11 = 0 then 1 else 0
def enS (f : Nat → Int32) : Int := (f 15).toInt + (f 16).toInt + (f 17).toInt + (f 18).toInt
def okC (B : Int) (f : Nat → Int32) : Prop :=
  (0 ≤ (f 15).toInt ∧ 0 ≤ (f 16).toInt ∧ 0 ≤ (f 17).toInt ∧ 0 ≤ (f 18).toInt) ∧ enS f + rlg f ≤ (f 14).toInt ∧ (f 14).toInt ≤ B ∧ (f 20).toInt = (if enS f < 10 then enS f else 10) ∧
  (∀ r : Nat, (r : Int) < (f 20).toInt → 1 ≤ (f (21 + 4 * r)).toInt ∧ 1 ≤ (f (22 + 4 * r)).toInt ∧ (f (22 + 4 * r)).toInt ≤ 4) ∧ (f 5 = 1 → 1 ≤ (f 6).toInt)
def J (B : Int) (f : Nat → Int32) : Prop := okRow B f ∧ (∀ k, k < (f 4).toNatClampNeg → okP B f k) ∧ okC B f
theorem rlg_in (f : Nat → Int32) : 0 ≤ rlg f ∧ rlg f ≤ 1 := by
  unfold rlg
  split <;> omega
theorem okP_same {B B' : Int} {f f1 : Nat → Int32} {k k1 : Nat} (hB : B ≤ B') (h : okP B f k) (r : ∀ i, i < 5 → f1 (61 + 5 * k1 + i) = f (61 + 5 * k + i)) : okP B' f1 k1 := by
  have r0 : kindAt f1 k1 = kindAt f k := r 0 (by decide)
  have r1 : valAt f1 k1 = valAt f k := by
    have q := r 1 (by decide)
    rw [show 61 + 5 * k1 + 1 = 62 + 5 * k1 by omega, show 61 + 5 * k + 1 = 62 + 5 * k by omega] at q
    exact q
  have r2 : f1 (63 + 5 * k1) = f (63 + 5 * k) := by
    have q := r 2 (by decide)
    rw [show 61 + 5 * k1 + 2 = 63 + 5 * k1 by omega, show 61 + 5 * k + 2 = 63 + 5 * k by omega] at q
    exact q
  have r3 : f1 (64 + 5 * k1) = f (64 + 5 * k) := by
    have q := r 3 (by decide)
    rw [show 61 + 5 * k1 + 3 = 64 + 5 * k1 by omega, show 61 + 5 * k + 3 = 64 + 5 * k by omega] at q
    exact q
  have r4 : f1 (65 + 5 * k1) = f (65 + 5 * k) := by
    have q := r 4 (by decide)
    rw [show 61 + 5 * k1 + 4 = 65 + 5 * k1 by omega, show 61 + 5 * k + 4 = 65 + 5 * k by omega] at q
    exact q
  unfold okP at h ⊢
  rw [r0, r1, r2, r3, r4]
  exact ⟨h.1, h.2.1, h.2.2.1, h.2.2.2.1, h.2.2.2.2.1, by have := h.2.2.2.2.2; omega⟩
theorem okP_id {B B' : Int} {f f1 : Nat → Int32} {k : Nat} (hB : B ≤ B') (h : okP B f k) (r : ∀ q, 61 ≤ q → f1 q = f q) : okP B' f1 k := okP_same hB h (fun i hi => r _ (by omega))
theorem okC_same {B B' : Int} {f f1 : Nat → Int32} (hB : B ≤ B') (h : okC B f) (r6 : f1 5 = 1 → f1 6 = f 6 ∧ f 5 = 1) (hr : rlg f1 ≤ rlg f) (r : ∀ q, 14 ≤ q → q < 61 → q ≠ 19 → f1 q = f q) : okC B' f1 := by
  obtain ⟨a, b, c, d, e, g⟩ := h
  unfold okC enS
  unfold enS at b d
  rw [r 14 (by decide) (by decide) (by decide), r 15 (by decide) (by decide) (by decide), r 16 (by decide) (by decide) (by decide), r 17 (by decide) (by decide) (by decide), r 18 (by decide) (by decide) (by decide), r 20 (by decide) (by decide) (by decide)]
  refine ⟨a, by omega, by omega, d, fun j hj => ?_, fun q => by rw [(r6 q).1]; exact g (r6 q).2⟩
  have hj10 : j < 10 := by
    split at d <;> omega
  rw [r (21 + 4 * j) (by omega) (by omega) (by omega), r (22 + 4 * j) (by omega) (by omega) (by omega)]
  exact e j hj
theorem J_mono {B B' : Int} {f : Nat → Int32} (hb : B ≤ B') (h : J B f) : J B' f :=
  ⟨okRow_mono hb h.1, fun k hk => okP_id hb (h.2.1 k hk) (fun _ _ => rfl), okC_same hb h.2.2 (fun q => ⟨rfl, q⟩) (Int.le_refl _) (fun _ _ _ _ => rfl)⟩
theorem J_set {B : Int} {f : Nat → Int32} {k : Nat} {v : Int32} (h : J B f) (hk : k < 4) (hc : T_can (nI k) v) : J B (upd f k v) :=
  ⟨okRow_set h.1 hk hc, fun j hj => okP_id (Int.le_refl _) (h.2.1 j (by rw [upd_n (by omega)] at hj; exact hj)) (fun q hq => upd_n (by omega)), okC_same (Int.le_refl _) h.2.2 (fun q => ⟨upd_n (by omega), by rw [upd_n (by omega)] at q; exact q⟩) (by unfold rlg; rw [upd_n (by omega), upd_n (by omega)]; exact Int.le_refl _) (fun q a b c => upd_n (by omega))⟩
theorem rlg_0 {f : Nat → Int32} (h : f 5 = 0) : rlg f = 0 := if_neg (fun q => absurd (h.symm.trans q.1) (by decide))
theorem rlg_e {f : Nat → Int32} (h : ¬ f 11 = 0) : rlg f = 0 := if_neg (fun q => h q.2)
theorem rlg_1 {f : Nat → Int32} (h : f 5 = 1) (h2 : f 11 = 0) : rlg f = 1 := if_pos ⟨h, h2⟩
theorem J_ins {B : Int} {f : Nat → Int32} {k m : Nat} {kd v : Int32} (hB : 0 ≤ B) (h : J B f) (hkm : k ≤ m) (hm : m < 20) (h4 : f 4 = nI m) (hp : 0 ≤ kd ∧ kd ≤ 2 ∧ 1 ≤ v ∧ v ≤ (if kd = 2 then 99 else 9)) : J B (T_insert k kd v f) := by
  have e5 : T_insert k kd v f 5 = 0 := rfl
  have e4 : T_insert k kd v f 4 = f 4 + 1 := rfl
  have c4 : (f 4).toNatClampNeg = m := by rw [h4]; exact nI_clamp (by omega)
  have c4' : (T_insert k kd v f 4).toNatClampNeg = m + 1 := by rw [e4, h4, ← nI_succ]; exact nI_clamp (by omega)
  refine ⟨okRow_ins h.1 hm h4 hp, fun j hj => ?_, okC_same (Int.le_refl _) h.2.2 (fun q => absurd (e5.symm.trans q) (by decide)) (by rw [rlg_0 e5]; exact (rlg_in f).1) (fun q a b c => ins_out (by omega) (by omega) (by omega))⟩
  rw [c4'] at hj
  by_cases a : j < k
  · refine okP_same (Int.le_refl _) (h.2.1 j (by omega)) (fun i hi => ?_)
    unfold T_insert
    rw [if_neg (by omega), if_neg (by omega), if_neg (by omega), if_neg (by omega), if_neg (by omega), if_neg (by omega)]
  · by_cases b : j = k
    · subst b
      have i0 : kindAt (T_insert j kd v f) j = kd := by
        unfold kindAt T_insert
        rw [if_neg (by omega), if_neg (by omega), if_pos rfl]
      have i1 : valAt (T_insert j kd v f) j = v := by
        unfold valAt T_insert
        rw [if_neg (by omega), if_neg (by omega), if_neg (by omega), if_pos rfl]
      have i2 : ∀ q, 63 + 5 * j ≤ q → q < 66 + 5 * j → T_insert j kd v f q = 0 := fun q h1 h2 => by
        unfold T_insert
        rw [if_neg (by omega), if_neg (by omega), if_neg (by omega), if_neg (by omega), if_pos ⟨h1, h2⟩]
      have a1 := Int32.le_iff_toInt_le.mp hp.1
      have a2 := Int32.le_iff_toInt_le.mp hp.2.1
      have a3 := Int32.le_iff_toInt_le.mp hp.2.2.1
      have a4 := Int32.le_iff_toInt_le.mp hp.2.2.2
      have z : (0 : Int32).toInt = 0 := rfl
      have o : (1 : Int32).toInt = 1 := rfl
      have t : (2 : Int32).toInt = 2 := rfl
      unfold okP
      rw [i0, i1, i2 _ (by omega) (by omega), i2 _ (by omega) (by omega), i2 _ (by omega) (by omega)]
      refine ⟨?_, ⟨by omega, ?_⟩, Or.inl rfl, Or.inl rfl, by rw [z]; omega⟩
      · have y : kd.toInt = 0 ∨ kd.toInt = 1 ∨ kd.toInt = 2 := by omega
        rcases y with y | y | y
        · exact Or.inl (Int32.toInt_inj.mp y)
        · exact Or.inr (Or.inl (Int32.toInt_inj.mp y))
        · exact Or.inr (Or.inr (Int32.toInt_inj.mp y))
      · by_cases c : kd = 2
        · rw [if_pos c] at a4 ⊢; exact a4
        · rw [if_neg c] at a4 ⊢; exact a4
    · obtain ⟨j, rfl⟩ : ∃ q, j = q + 1 := ⟨j - 1, by omega⟩
      refine okP_same (Int.le_refl _) (h.2.1 j (by omega)) (fun i hi => ?_)
      unfold T_insert
      rw [if_neg (by omega), if_neg (by omega), if_neg (by omega), if_neg (by omega), if_neg (by omega), if_pos (by omega)]
      exact congrArg f (by omega)
theorem J_rem {B : Int} {f : Nat → Int32} {k m : Nat} (h : J B f) (hk : k < m) (hm : m ≤ 20) (h4 : f 4 = nI m) : J B (T_remove k f) := by
  have e5 : T_remove k f 5 = 0 := rfl
  have e4 : T_remove k f 4 = f 4 - 1 := rfl
  have c4 : (f 4).toNatClampNeg = m := by rw [h4]; exact nI_clamp (by omega)
  have c4' : (T_remove k f 4).toNatClampNeg = m - 1 := by
    obtain ⟨m, rfl⟩ : ∃ q, m = q + 1 := ⟨m - 1, by omega⟩
    rw [e4, h4, nI_pred]; exact nI_clamp (by omega)
  refine ⟨okRow_rem h.1 hk hm h4, fun j hj => ?_, okC_same (Int.le_refl _) h.2.2 (fun q => absurd (e5.symm.trans q) (by decide)) (by rw [rlg_0 e5]; exact (rlg_in f).1) (fun q a b c => rem_out (by omega) (by omega) (by omega))⟩
  rw [c4'] at hj
  by_cases a : j < k
  · refine okP_same (Int.le_refl _) (h.2.1 j (by omega)) (fun i hi => ?_)
    unfold T_remove
    rw [if_neg (by omega), if_neg (by omega), if_neg (by omega)]
  · refine okP_same (Int.le_refl _) (h.2.1 (j + 1) (by omega)) (fun i hi => ?_)
    unfold T_remove
    rw [if_neg (by omega), if_neg (by omega), if_pos (by omega)]
    exact congrArg f (by omega)
theorem J_run {B : Int} {f : Nat → Int32} (x : Int32) (hx : 1 ≤ x.toInt) (hB0 : 0 ≤ B) (hB : B ≤ 900000000) (h : J B f) : J (B + 1) (T_run x f) := by
  have r : ∀ q, q < 5 ∨ 14 < q → T_run x f q = f q := fun q hq => run_out (by omega) (by omega)
  obtain ⟨h1, h2, a, b, c, d, e, g⟩ := h
  have e14 : T_run x f 14 = f 14 + 1 := rfl
  have er := rlg_in f
  have eS : enS (T_run x f) = enS f := by
    unfold enS
    rw [r 15 (by decide), r 16 (by decide), r 17 (by decide), r 18 (by decide)]
  have e0 : 0 ≤ enS f := by unfold enS; omega
  have o : (1 : Int32).toInt = 1 := rfl
  have i14 : (f 14 + 1).toInt = (f 14).toInt + 1 := i_add (by omega) (by omega)
  refine ⟨okRow_mono (by omega) (okRow_run x hB0 h1), fun j hj => ?_, ?_⟩
  · rw [r 4 (by decide)] at hj
    exact okP_id (by omega) (h2 j hj) (fun q hq => r q (by omega))
  · unfold okC
    rw [eS, e14, i14, r 15 (by decide), r 16 (by decide), r 17 (by decide), r 18 (by decide), r 20 (by decide), rlg_1 (show T_run x f 5 = 1 from rfl) (show T_run x f 11 = 0 from rfl)]
    exact ⟨a, by omega, by omega, d, fun j hj => by rw [r (21 + 4 * j) (by omega), r (22 + 4 * j) (by omega)]; exact e j hj, fun _ => hx⟩
theorem J_tap {B : Int} {f : Nat → Int32} (x : Int32) (hB : B + 30 ≤ 900000000) (h : J B f) : J (B + 30) (T_tapp x f) := by
  have r : ∀ q, q ≠ 8 ∧ q ≠ 9 ∧ q ≠ 12 → q ≠ 19 → T_tapp x f q = f q := fun q hq h19 => by unfold T_tapp; rw [upd_n h19]; exact tap_out hq
  refine ⟨okRow_tap x hB h.1, fun j hj => ?_, okC_same (by omega) h.2.2 (fun q => ⟨r 6 (by decide) (by decide), by rw [r 5 (by decide) (by decide)] at q; exact q⟩) ?_ (fun q a b c => r q (by omega) c)⟩
  · rw [r 4 (by decide) (by decide)] at hj
    exact okP_id (by omega) (h.2.1 j hj) (fun q hq => r q (by omega) (by omega))
  · unfold rlg
    rw [r 5 (by decide) (by decide), r 11 (by decide) (by decide)]
    exact Int.le_refl _
theorem J_push {B : Int} {f : Nat → Int32} (h : J B f) : J B (T_push f) := by
  have r : ∀ q, q ≠ 7 → q ≠ 13 → T_push f q = f q := fun q a b => by unfold T_push; rw [upd_n b, upd_n a]
  refine ⟨okRow_push h.1, fun j hj => ?_, okC_same (Int.le_refl _) h.2.2 (fun q => ⟨r 6 (by decide) (by decide), by rw [r 5 (by decide) (by decide)] at q; exact q⟩) ?_ (fun q a b c => r q (by omega) (by omega))⟩
  · rw [r 4 (by decide) (by decide)] at hj
    exact okP_id (Int.le_refl _) (h.2.1 j hj) (fun q hq => r q (by omega) (by omega))
  · unfold rlg
    rw [r 5 (by decide) (by decide), r 11 (by decide) (by decide)]
    exact Int.le_refl _
/-- one more run is over -/
theorem okC_end {B : Int} {f f1 : Nat → Int32} {w : Nat} (h : okC B f) (hB : B + 1 ≤ 900000000) (hw : w = 15 ∨ w = 16 ∨ w = 17 ∨ w = 18) (hr : rlg f = 1) (h5 : f 5 = 1) (h6 : f1 5 = f 5 ∧ f1 6 = f 6) (h14 : f1 14 = f 14) (hrl : ¬ f1 11 = 0) (hww : ∀ q, q = 15 ∨ q = 16 ∨ q = 17 ∨ q = 18 → f1 q = upd f w (f w + 1) q)
    (h20 : f1 20 = f 20 + (if f 20 < 10 then 1 else 0)) (h21 : f1 21 = f 6) (h22 : 1 ≤ (f1 22).toInt ∧ (f1 22).toInt ≤ 4) (hl : ∀ q, 25 ≤ q → q < 61 → f1 q = f (q - 4)) : okC (B + 1) f1 := by
  obtain ⟨⟨a1, a2, a3, a4⟩, b, c, d, e, g⟩ := h
  have o : (1 : Int32).toInt = 1 := rfl
  have t : (10 : Int32).toInt = 10 := rfl
  have z : (0 : Int32).toInt = 0 := rfl
  have b' : (f 15).toInt + (f 16).toInt + (f 17).toInt + (f 18).toInt + 1 ≤ (f 14).toInt := by rw [hr] at b; exact b
  have w15 := hww 15 (by decide)
  have w16 := hww 16 (by decide)
  have w17 := hww 17 (by decide)
  have w18 := hww 18 (by decide)
  have eS : enS f1 = enS f + 1 ∧ 0 ≤ (f1 15).toInt ∧ 0 ≤ (f1 16).toInt ∧ 0 ≤ (f1 17).toInt ∧ 0 ≤ (f1 18).toInt := by
    unfold enS
    rcases hw with rfl | rfl | rfl | rfl
    · rw [upd_s] at w15; rw [upd_n (by decide)] at w16 w17 w18
      rw [w15, w16, w17, w18, i_add (by omega) (by omega)]; omega
    · rw [upd_s] at w16; rw [upd_n (by decide)] at w15 w17 w18
      rw [w15, w16, w17, w18, i_add (by omega) (by omega)]; omega
    · rw [upd_s] at w17; rw [upd_n (by decide)] at w15 w16 w18
      rw [w15, w16, w17, w18, i_add (by omega) (by omega)]; omega
    · rw [upd_s] at w18; rw [upd_n (by decide)] at w15 w16 w17
      rw [w15, w16, w17, w18, i_add (by omega) (by omega)]; omega
  have e0 : 0 ≤ enS f := by unfold enS; omega
  have bS : enS f + 1 ≤ (f 14).toInt := b'
  have e20 : (f1 20).toInt = (if enS f + 1 < 10 then enS f + 1 else 10) := by
    rw [h20]
    by_cases k : f 20 < 10
    · have k' := Int32.lt_iff_toInt_lt.mp k
      rw [if_pos k]
      have ks : enS f < 10 := by
        by_cases q : enS f < 10
        · exact q
        · rw [if_neg q] at d; omega
      rw [if_pos ks] at d
      rw [i_add (by omega) (by omega)]
      split <;> omega
    · have k' := k
      rw [Int32.lt_iff_toInt_lt] at k'
      rw [if_neg k, Int32.add_zero, if_neg (by split at d <;> omega)]
      split at d <;> omega
  unfold okC
  rw [eS.1, rlg_e hrl, h14]
  refine ⟨eS.2, by omega, by omega, e20, fun r hr => ?_, fun q => by rw [h6.2]; exact g h5⟩
  cases r with
  | zero =>
    show 1 ≤ (f1 21).toInt ∧ 1 ≤ (f1 22).toInt ∧ (f1 22).toInt ≤ 4
    rw [h21]
    exact ⟨g h5, h22⟩
  | succ r =>
    have r20 : (r : Int) < (f 20).toInt ∧ r < 9 := by
      rw [e20] at hr
      split at hr <;> split at d <;> omega
    rw [hl (21 + 4 * (r + 1)) (by omega) (by omega), hl (22 + 4 * (r + 1)) (by omega) (by omega), show 21 + 4 * (r + 1) - 4 = 21 + 4 * r by omega, show 22 + 4 * (r + 1) - 4 = 22 + 4 * r by omega]
    exact e r r20.1
theorem lists_at (f : Nat → Int32) : T_lists f 20 = f 20 + (if f 20 < 10 then 1 else 0) ∧ T_lists f 21 = f 6 ∧ T_lists f 22 = f 11 ∧ T_lists f 23 = f 10 ∧ T_lists f 24 = f 12 ∧ ∀ q, 25 ≤ q → q < 61 → T_lists f q = f (q - 4) :=
  ⟨rfl, rfl, rfl, rfl, rfl, fun q h1 h2 => by
    unfold T_lists
    rw [if_neg (by omega), if_neg (by omega), if_neg (by omega), if_neg (by omega), if_neg (by omega), if_pos ⟨h1, h2⟩]⟩
/-- what a run's end leaves, how = we: 1 to 3 -/
theorem ends_at {f : Nat → Int32} {k we : Nat} (h10 : f 10 = nI k) (h11 : f 11 = nI we) (hk : k < 20) (h1 : 1 ≤ we) (h3 : we ≤ 3) :
    (∀ q, q < 14 → T_ends f q = f q) ∧ T_ends f 14 = f 14 ∧ (∀ q, q = 15 ∨ q = 16 ∨ q = 17 ∨ q = 18 → T_ends f q = upd f (14 + we) (f (14 + we) + 1) q) ∧ T_ends f 20 = f 20 + (if f 20 < 10 then 1 else 0) ∧ T_ends f 21 = f 6 ∧ T_ends f 22 = f 11 ∧ T_ends f 23 = f 10 ∧ T_ends f 24 = f 12 ∧
    (∀ q, 25 ≤ q → q < 61 → T_ends f q = f (q - 4)) ∧ ∀ q, 61 ≤ q → T_ends f q = upd f (62 + 5 * k + we) (f (62 + 5 * k + we) + 1) q := by
  rw [ends_a h10 h11 hk h1 h3]
  obtain ⟨l1, l2, l3, l4, l5, l6⟩ := lists_at (upd (upd f (14 + we) (f (14 + we) + 1)) (62 + 5 * k + we) (f (62 + 5 * k + we) + 1))
  have u : ∀ q, q ≠ 14 + we → q ≠ 62 + 5 * k + we → upd (upd f (14 + we) (f (14 + we) + 1)) (62 + 5 * k + we) (f (62 + 5 * k + we) + 1) q = f q := fun q a b => by rw [upd_n b, upd_n a]
  refine ⟨fun q hq => ea_lo h1 h3 (by omega), ea_lo h1 h3 (by omega), fun q hq => ea_en (by omega), by rw [l1, u 20 (by omega) (by omega)], by rw [l2, u 6 (by omega) (by omega)], by rw [l3, u 11 (by omega) (by omega)], by rw [l4, u 10 (by omega) (by omega)], by rw [l5, u 12 (by omega) (by omega)], fun q a b => by rw [l6 q a b, u (q - 4) (by omega) (by omega)], fun q hq => ea_hi h3 hq⟩
theorem passed_at {f : Nat → Int32} (h11 : f 11 = 4) :
    (∀ q, q < 18 → T_ends f q = f q) ∧ T_ends f 18 = f 18 + 1 ∧ T_ends f 20 = f 20 + (if f 20 < 10 then 1 else 0) ∧ T_ends f 21 = f 6 ∧ T_ends f 22 = f 11 ∧ T_ends f 23 = f 10 ∧ T_ends f 24 = f 12 ∧ (∀ q, 25 ≤ q → q < 61 → T_ends f q = f (q - 4)) ∧ ∀ q, 61 ≤ q → T_ends f q = f q := by
  rw [ends_p h11]
  obtain ⟨l1, l2, l3, l4, l5, l6⟩ := lists_at (upd f 18 (f 18 + 1))
  have u : ∀ q, q ≠ 18 → upd f 18 (f 18 + 1) q = f q := fun q a => upd_n a
  exact ⟨fun q hq => ep_lo (by omega) (by omega), by rw [lists_out (by decide), upd_s], by rw [l1, u 20 (by omega)], by rw [l2, u 6 (by omega)], by rw [l3, u 11 (by omega)], by rw [l4, u 10 (by omega)], by rw [l5, u 12 (by omega)], fun q a b => by rw [l6 q a b, u (q - 4) (by omega)], fun q hq => ep_lo (by omega) (by omega)⟩
