/-! p25: a roll over one part keeps what holds of a row -/
theorem meet_2 {f : Nat → Int32} {k : Nat} (h : (T_meet k f).2 = 2) : ¬ kindAt f k = 0 ∧ ¬ kindAt f k = 1 := by
  unfold T_meet at h
  by_cases a : kindAt f k = 0
  · rw [if_pos a] at h; exact absurd (show (0 : Int32) = 2 from h) (by decide)
  · rw [if_neg a] at h
    by_cases b : kindAt f k = 1
    · rw [if_pos b] at h
      have h2 : (if T_lands (valAt f k).toNatClampNeg f 7 = 0 then (3 : Int32) else 0) = 2 := h
      by_cases c : T_lands (valAt f k).toNatClampNeg f 7 = 0
      · rw [if_pos c] at h2; exact absurd h2 (by decide)
      · rw [if_neg c] at h2; exact absurd h2 (by decide)
    · exact ⟨a, b⟩
theorem meet_3 {f : Nat → Int32} {k : Nat} (h : (T_meet k f).2 = 3) : kindAt f k = 1 := by
  unfold T_meet at h
  by_cases a : kindAt f k = 0
  · rw [if_pos a] at h; exact absurd (show (0 : Int32) = 3 from h) (by decide)
  · rw [if_neg a] at h
    by_cases b : kindAt f k = 1
    · exact b
    · rw [if_neg b] at h
      have h2 : (if valAt f k < f 6 + f 9 / 4 then (2 : Int32) else 0) = 3 := h
      by_cases c : valAt f k < f 6 + f 9 / 4
      · rw [if_pos c] at h2; exact absurd h2 (by decide)
      · rw [if_neg c] at h2; exact absurd h2 (by decide)
theorem hw_of {f : Nat → Int32} {k : Nat} {w : Int32} (h : T_hw f k = w) (h0 : ¬ w = 0) (h1 : ¬ w = 1) (h4 : ¬ w = 4) : (T_meet k f).2 = w := by
  unfold T_hw at h
  by_cases a : (T_meet k f).2 = 0
  · rw [if_pos a] at h
    by_cases b : f 0 ≤ iabs ((T_meet k f).1 8)
    · rw [if_pos b] at h; exact absurd h.symm h1
    · rw [if_neg b] at h
      by_cases c : f 10 + 1 < f 4
      · rw [if_pos c] at h; exact absurd h.symm h0
      · rw [if_neg c] at h; exact absurd h.symm h4
  · rw [if_neg a] at h; exact h
theorem hw_in (f : Nat → Int32) (k : Nat) : T_hw f k = 0 ∨ T_hw f k = 1 ∨ T_hw f k = 2 ∨ T_hw f k = 3 ∨ T_hw f k = 4 := by
  unfold T_hw
  by_cases a : (T_meet k f).2 = 0
  · rw [if_pos a]
    by_cases b : f 0 ≤ iabs ((T_meet k f).1 8)
    · rw [if_pos b]; exact Or.inr (Or.inl rfl)
    · rw [if_neg b]
      by_cases c : f 10 + 1 < f 4
      · rw [if_pos c]; exact Or.inl rfl
      · rw [if_neg c]; exact Or.inr (Or.inr (Or.inr (Or.inr rfl)))
  · rw [if_neg a]
    rcases T_meet_how k f with h | h | h
    · exact absurd h a
    · rw [h]; exact Or.inr (Or.inr (Or.inl rfl))
    · rw [h]; exact Or.inr (Or.inr (Or.inr (Or.inl rfl)))
/-- where the hoop stands -/
theorem pl_at {B : Int} {f : Nat → Int32} (h : okRow B f) (h5 : f 5 = 1) : ∃ k n : Nat, f 10 = nI k ∧ f 4 = nI n ∧ k ≤ n ∧ n ≤ 20 ∧ (f 4).toNatClampNeg = n ∧ (f 10).toNatClampNeg = k := by
  have a := (h.2.2.1 h5).2.2.2.1
  have b := h.1.2.2.2.2.1
  obtain ⟨e1, l1, i1⟩ := nI_rd (x := f 10) (M := 20) a.1 (by omega)
  obtain ⟨e2, l2, i2⟩ := nI_rd (x := f 4) (M := 20) b.1 b.2
  exact ⟨_, _, e1, e2, by omega, l2, rfl, rfl⟩
theorem n_at {B : Int} {f : Nat → Int32} (h : okRow B f) : ∃ n : Nat, f 4 = nI n ∧ n ≤ 20 ∧ (f 4).toNatClampNeg = n := by
  have b := h.1.2.2.2.2.1
  obtain ⟨e2, l2, i2⟩ := nI_rd (x := f 4) (M := 20) b.1 b.2
  exact ⟨_, e2, l2, rfl⟩
theorem J_roll1 {B : Int} {f : Nat → Int32} (h : J B f) (hB0 : 0 ≤ B) (hB : B + 25 ≤ 900000000) (h5 : f 5 = 1) (h11 : f 11 = 0) : J (B + 25) (T_rolled 1 f 0) := by
  have hrow := okRow_roll (g := 0) 1 (by omega) h.1 h5 h11
  have fr : ∀ q, q ≠ 7 → q ≠ 8 → q ≠ 9 → q ≠ 10 → q ≠ 11 → (T_step f 0).1 q = f q := fun q a b c d e => T_step_fr a b c d e
  obtain ⟨k, n, h10, h4, hkn, hn, c4, c10⟩ := pl_at h.1 h5
  obtain ⟨f1, ef1⟩ : ∃ z, z = (T_step f 0).1 := ⟨_, rfl⟩
  rw [← ef1] at fr
  rcases rolled1 h.1 hB h5 h11 with ⟨r0, r1⟩ | ⟨r0, rE, r1⟩
  · rw [← ef1] at r0 r1
    refine ⟨hrow, fun j hj => ?_, ?_⟩
    · rw [r1, fr 4 (by decide) (by decide) (by decide) (by decide) (by decide)] at hj
      rw [r1]
      exact okP_id (by omega) (h.2.1 j hj) (fun q hq => fr q (by omega) (by omega) (by omega) (by omega) (by omega))
    · rw [r1]
      refine okC_same (by omega) h.2.2 (fun q => ⟨fr 6 (by decide) (by decide) (by decide) (by decide) (by decide), h5⟩) ?_ (fun q a b c => fr q (by omega) (by omega) (by omega) (by omega) (by omega))
      rw [rlg_1 h5 h11]; exact (rlg_in f1).2
  · have hst : k < n → f1 11 = T_hw f k ∧ (T_hw f k = 1 ∨ T_hw f k = 2 ∨ T_hw f k = 3 → f1 10 = f 10) := fun hlt => by
      have q := step_at (g := 0) h10 h4 hlt hn h11
      rw [← ef1] at q
      refine ⟨q.1, fun z => q.2.2.1.trans ?_⟩
      rcases z with z | z | z <;> rw [z] <;> exact if_neg (by decide)
    have hpast : ¬ k < n → f1 11 = 4 := fun hge => by
      have q := step_past (f := f) (g := 0) (by rw [h10, h4]; exact nI_nlt (by omega) (by omega))
      rw [ef1, q]; show upd f 11 4 11 = 4; exact upd_s
    rw [← ef1] at r0 r1 rE
    have f1h : ∀ q, q = 4 ∨ q = 5 ∨ q = 6 ∨ 14 ≤ q → f1 q = f q := fun q hq => fr q (by omega) (by omega) (by omega) (by omega) (by omega)
    rcases rE with h4e | ⟨k2, we, g1, g2, g3, g4, g5, g6⟩
    · obtain ⟨p1, p2, p3, p4, p5, p6, p7, p8, p9⟩ := passed_at h4e
      refine ⟨hrow, fun j hj => ?_, ?_⟩
      · rw [r1, p1 4 (by decide), f1h 4 (by decide)] at hj
        rw [r1]
        exact okP_id (by omega) (h.2.1 j hj) (fun q hq => (p9 q hq).trans (f1h q (by omega)))
      · rw [r1]
        have c1 : okC (B + 1) (T_ends f1) := okC_end (w := 18) h.2.2 (by omega) (by decide) (rlg_1 h5 h11) h5 ⟨(p1 5 (by decide)).trans (f1h 5 (by decide)), (p1 6 (by decide)).trans (f1h 6 (by decide))⟩ ((p1 14 (by decide)).trans (f1h 14 (by decide))) (by rw [p1 11 (by decide), h4e]; decide)
          (fun q hq => by
            rcases hq with rfl | rfl | rfl | rfl
            · rw [p1 15 (by decide), f1h 15 (by decide), upd_n (by decide)]
            · rw [p1 16 (by decide), f1h 16 (by decide), upd_n (by decide)]
            · rw [p1 17 (by decide), f1h 17 (by decide), upd_n (by decide)]
            · rw [p2, f1h 18 (by decide), upd_s])
          (by rw [p3, f1h 20 (by decide)]) (by rw [p4, f1h 6 (by decide)]) (by rw [p5, h4e]; decide) (fun q a b => by rw [p8 q a b, f1h (q - 4) (by omega)])
        exact okC_same (by omega) c1 (fun q => ⟨rfl, q⟩) (Int.le_refl _) (fun _ _ _ _ => rfl)
    · have hlt : k < n := by
        by_cases z : k < n
        · exact z
        · have q := hpast z
          rw [g6] at q
          have := (nI_eq (a := we) (b := 4) (by omega) (by decide)).mp q
          omega
      obtain ⟨s1, s2⟩ := hst hlt
      have ew : T_hw f k = nI we := s1.symm.trans g6
      have ek : k2 = k := by
        have q : f1 10 = f 10 := s2 (by
          rw [ew]
          have : we = 1 ∨ we = 2 ∨ we = 3 := by omega
          rcases this with rfl | rfl | rfl
          · exact Or.inl rfl
          · exact Or.inr (Or.inl rfl)
          · exact Or.inr (Or.inr rfl))
        rw [g5, h10] at q
        exact (nI_eq (by omega) (by omega)).mp q
      subst ek
      obtain ⟨p1, p14, pw, p3, p4, p5, p6, p7, p8, p9⟩ := ends_at g5 g6 g1 g3 g4
      refine ⟨hrow, fun j hj => ?_, ?_⟩
      · rw [r1, p1 4 (by decide), f1h 4 (by decide)] at hj
        rw [r1]
        by_cases ej : j = k2
        · subst ej
          obtain ⟨o1, o2, o3, o4, o5⟩ := h.2.1 j hj
          have o : (1 : Int32).toInt = 1 := rfl
          have v0 : ∀ q, q ≠ 62 + 5 * j + we → 61 ≤ q → T_ends f1 q = f q := fun q a b => by rw [p9 q b, upd_n a]; exact f1h q (by omega)
          have v1 : T_ends f1 (62 + 5 * j + we) = f (62 + 5 * j + we) + 1 := by rw [p9 _ (by omega), upd_s, f1h _ (by omega)]
          have k0 : kindAt (T_ends f1) j = kindAt f j := v0 _ (by omega) (by omega)
          have k1 : valAt (T_ends f1) j = valAt f j := v0 _ (by omega) (by omega)
          unfold okP
          rw [k0, k1]
          have hw3 : we = 1 ∨ we = 2 ∨ we = 3 := by omega
          rcases hw3 with e | e | e
          · rw [e] at v1 v0
            rw [v0 (64 + 5 * j) (by omega) (by omega), v0 (65 + 5 * j) (by omega) (by omega), show 63 + 5 * j = 62 + 5 * j + 1 by omega, v1, show 62 + 5 * j + 1 = 63 + 5 * j by omega, i_add (by omega) (by omega)]
            exact ⟨o1, o2, o3, o4, by omega⟩
          · have hk : kindAt f j = 2 := by
              have z := meet_2 (hw_of (w := 2) (by rw [ew, e]; rfl) (by decide) (by decide) (by decide))
              rcases o1 with q | q | q
              · exact absurd q z.1
              · exact absurd q z.2
              · exact q
            rw [e] at v0
            rw [v0 (65 + 5 * j) (by omega) (by omega), v0 (63 + 5 * j) (by omega) (by omega)]
            exact ⟨o1, o2, Or.inr hk, o4, by omega⟩
          · have hk : kindAt f j = 1 := meet_3 (hw_of (w := 3) (by rw [ew, e]; rfl) (by decide) (by decide) (by decide))
            rw [e] at v0
            rw [v0 (64 + 5 * j) (by omega) (by omega), v0 (63 + 5 * j) (by omega) (by omega)]
            exact ⟨o1, o2, o3, Or.inr hk, by omega⟩
        · exact okP_same (by omega) (h.2.1 j hj) (fun i hi => by rw [p9 _ (by omega), upd_n (by omega)]; exact f1h _ (by omega))
      · rw [r1]
        have wi : 1 ≤ (nI we).toInt ∧ (nI we).toInt ≤ 4 := by rw [nI_toInt (by omega)]; omega
        have c1 : okC (B + 1) (T_ends f1) := okC_end (w := 14 + we) h.2.2 (by omega) (by omega) (rlg_1 h5 h11) h5 ⟨(p1 5 (by decide)).trans (f1h 5 (by decide)), (p1 6 (by decide)).trans (f1h 6 (by decide))⟩ (p14.trans (f1h 14 (by decide))) (by rw [p1 11 (by decide)]; exact r0)
          (fun q hq => by
            rw [pw q hq, f1h (14 + we) (by omega)]
            by_cases e : q = 14 + we
            · rw [e, upd_s, upd_s]
            · rw [upd_n e, upd_n e]; exact f1h q (by omega))
          (by rw [p3, f1h 20 (by decide)]) (by rw [p4, f1h 6 (by decide)]) (by rw [p5, g6]; exact wi) (fun q a b => by rw [p8 q a b, f1h (q - 4) (by omega)])
        exact okC_same (by omega) c1 (fun q => ⟨rfl, q⟩) (Int.le_refl _) (fun _ _ _ _ => rfl)
