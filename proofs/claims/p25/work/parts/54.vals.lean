/-! p25: what the calls answer, for written numbers -/
theorem of_0 {f : Nat → Int32} {k n : Nat} (h4 : f 4 = nI n) (hk : k < n) (hn : n ≤ 20) : T_of f (nI k) 0 = kindAt f k := by
  unfold T_of
  rw [if_pos ⟨nI_le (Nat.zero_le k) (by omega), by rw [h4]; exact nI_lt hk (by omega), nI_lt (b := 20) (by omega) (by decide)⟩, if_pos (by decide), nI_clamp (by omega)]
  have e : (0 : Int32).toNatClampNeg = 0 := by decide
  rw [e]
  exact congrArg f (by omega)
theorem of_1 {f : Nat → Int32} {k n : Nat} (h4 : f 4 = nI n) (hk : k < n) (hn : n ≤ 20) : T_of f (nI k) 1 = valAt f k := by
  unfold T_of
  rw [if_pos ⟨nI_le (Nat.zero_le k) (by omega), by rw [h4]; exact nI_lt hk (by omega), nI_lt (b := 20) (by omega) (by decide)⟩, if_pos (by decide), nI_clamp (by omega)]
  have e : (1 : Int32).toNatClampNeg = 1 := by decide
  rw [e]
  exact congrArg f (by omega)
theorem of_2 {f : Nat → Int32} {k n : Nat} (h4 : f 4 = nI n) (hk : k < n) (hn : n ≤ 20) : T_of f (nI k) 2 = f (63 + 5 * k) := by
  unfold T_of
  rw [if_pos ⟨nI_le (Nat.zero_le k) (by omega), by rw [h4]; exact nI_lt hk (by omega), nI_lt (b := 20) (by omega) (by decide)⟩, if_pos (by decide), nI_clamp (by omega)]
  exact congrArg f (by have e : (2 : Int32).toNatClampNeg = 2 := by decide
                       omega)
theorem of_3 {f : Nat → Int32} {k n : Nat} (h4 : f 4 = nI n) (hk : k < n) (hn : n ≤ 20) : T_of f (nI k) 3 = f (64 + 5 * k) := by
  unfold T_of
  rw [if_pos ⟨nI_le (Nat.zero_le k) (by omega), by rw [h4]; exact nI_lt hk (by omega), nI_lt (b := 20) (by omega) (by decide)⟩, if_pos (by decide), nI_clamp (by omega)]
  exact congrArg f (by have e : (3 : Int32).toNatClampNeg = 3 := by decide
                       omega)
theorem of_4 {f : Nat → Int32} {k n : Nat} (h4 : f 4 = nI n) (hk : k < n) (hn : n ≤ 20) : T_of f (nI k) 4 = f (65 + 5 * k) := by
  unfold T_of
  rw [if_pos ⟨nI_le (Nat.zero_le k) (by omega), by rw [h4]; exact nI_lt hk (by omega), nI_lt (b := 20) (by omega) (by decide)⟩, if_pos (by decide), nI_clamp (by omega)]
  exact congrArg f (by have e : (4 : Int32).toNatClampNeg = 4 := by decide
                       omega)
theorem of_no {f : Nat → Int32} {n : Nat} {y : Int32} (h4 : f 4 = nI n) (hn : n ≤ 20) : T_of f (nI n) y = -1 := by
  unfold T_of
  rw [if_neg (fun q => by rw [h4] at q; exact nI_nlt (Nat.le_refl n) (by omega) q.2.1)]
theorem oh_0 {f : Nat → Int32} (h5 : f 5 = 1) : T_ofHoop f 0 = f 6 := by
  unfold T_ofHoop T_about
  rw [if_pos (by decide), if_neg (by rw [h5]; decide), if_pos rfl]
theorem ab_0 {f : Nat → Int32} : T_about f 0 = f 6 := by
  unfold T_about
  rw [if_pos rfl]
theorem oh_1 {f : Nat → Int32} (h5 : f 5 = 1) : T_ofHoop f 1 = f 7 := by
  unfold T_ofHoop T_about
  rw [if_pos (by decide), if_neg (by rw [h5]; decide), if_neg (by decide), if_pos rfl]
theorem ab_1 {f : Nat → Int32} : T_about f 1 = f 7 := by
  unfold T_about
  rw [if_neg (by decide), if_pos rfl]
theorem oh_2 {f : Nat → Int32} (h5 : f 5 = 1) : T_ofHoop f 2 = f 8 + 500 := by
  unfold T_ofHoop T_about
  rw [if_pos (by decide), if_neg (by rw [h5]; decide), if_neg (by decide), if_neg (by decide), if_pos rfl]
theorem ab_2 {f : Nat → Int32} : T_about f 2 = f 8 + 500 := by
  unfold T_about
  rw [if_neg (by decide), if_neg (by decide), if_pos rfl]
theorem oh_3 {f : Nat → Int32} (h5 : f 5 = 1) : T_ofHoop f 3 = f 9 := by
  unfold T_ofHoop T_about
  rw [if_pos (by decide), if_neg (by rw [h5]; decide), if_neg (by decide), if_neg (by decide), if_neg (by decide), if_pos rfl]
theorem ab_3 {f : Nat → Int32} : T_about f 3 = f 9 := by
  unfold T_about
  rw [if_neg (by decide), if_neg (by decide), if_neg (by decide), if_pos rfl]
theorem oh_4 {f : Nat → Int32} (h5 : f 5 = 1) : T_ofHoop f 4 = f 10 := by
  unfold T_ofHoop T_about
  rw [if_pos (by decide), if_neg (by rw [h5]; decide), if_neg (by decide), if_neg (by decide), if_neg (by decide), if_neg (by decide), if_pos rfl]
theorem ab_4 {f : Nat → Int32} : T_about f 4 = f 10 := by
  unfold T_about
  rw [if_neg (by decide), if_neg (by decide), if_neg (by decide), if_neg (by decide), if_pos rfl]
theorem oh_5 {f : Nat → Int32} (h5 : f 5 = 1) : T_ofHoop f 5 = f 11 := by
  unfold T_ofHoop T_about
  rw [if_pos (by decide), if_neg (by rw [h5]; decide), if_neg (by decide), if_neg (by decide), if_neg (by decide), if_neg (by decide), if_neg (by decide), if_pos rfl]
theorem ab_5 {f : Nat → Int32} : T_about f 5 = f 11 := by
  unfold T_about
  rw [if_neg (by decide), if_neg (by decide), if_neg (by decide), if_neg (by decide), if_neg (by decide), if_pos rfl]
theorem oh_6 {f : Nat → Int32} (h5 : f 5 = 1) : T_ofHoop f 6 = f 12 := by
  unfold T_ofHoop T_about
  rw [if_pos (by decide), if_neg (by rw [h5]; decide), if_neg (by decide), if_neg (by decide), if_neg (by decide), if_neg (by decide), if_neg (by decide), if_neg (by decide), if_pos rfl]
theorem ab_6 {f : Nat → Int32} : T_about f 6 = f 12 := by
  unfold T_about
  rw [if_neg (by decide), if_neg (by decide), if_neg (by decide), if_neg (by decide), if_neg (by decide), if_neg (by decide), if_pos rfl]
theorem oh_7 {f : Nat → Int32} (h5 : f 5 = 1) : T_ofHoop f 7 = f 13 := by
  unfold T_ofHoop T_about
  rw [if_pos (by decide), if_neg (by rw [h5]; decide), if_neg (by decide), if_neg (by decide), if_neg (by decide), if_neg (by decide), if_neg (by decide), if_neg (by decide), if_neg (by decide)]
theorem ab_7 {f : Nat → Int32} : T_about f 7 = f 13 := by
  unfold T_about
  rw [if_neg (by decide), if_neg (by decide), if_neg (by decide), if_neg (by decide), if_neg (by decide), if_neg (by decide), if_neg (by decide)]
theorem oh_no {f : Nat → Int32} {x : Int32} (hx : 0 ≤ x ∧ x ≤ 7) (h5 : f 5 = 0) : T_ofHoop f x = -6 := by
  unfold T_ofHoop
  rw [if_pos hx, if_pos h5]
theorem oh_bad {f : Nat → Int32} : T_ofHoop f 8 = -2 := if_neg (by decide)
/-- how the run is, of a hoop that doesn't roll -/
theorem oh_still {f : Nat → Int32} (h : z01 (f 5)) (hn : ¬ (f 5 = 1 ∧ f 11 = 0)) : ¬ T_ofHoop f 5 = 0 := by
  rcases h with h | h
  · rw [oh_no (by decide) h]; decide
  · rw [oh_5 h]; exact fun q => hn ⟨h, q⟩
theorem cn_0 {f : Nat → Int32} : T_cn f 0 = f 4 := by
  unfold T_cn T_num
  rw [if_neg (by decide), if_pos rfl]
theorem cn_1 {f : Nat → Int32} : T_cn f 1 = f 14 := by
  unfold T_cn T_num
  rw [if_neg (by decide), if_neg (by decide), if_pos rfl]
theorem cn_2 {f : Nat → Int32} : T_cn f 2 = f 15 := by
  unfold T_cn T_num
  rw [if_neg (by decide), if_neg (by decide), if_neg (by decide), if_pos rfl]
theorem cn_3 {f : Nat → Int32} : T_cn f 3 = f 16 := by
  unfold T_cn T_num
  rw [if_neg (by decide), if_neg (by decide), if_neg (by decide), if_neg (by decide), if_pos rfl]
theorem cn_4 {f : Nat → Int32} : T_cn f 4 = f 17 := by
  unfold T_cn T_num
  rw [if_neg (by decide), if_neg (by decide), if_neg (by decide), if_neg (by decide), if_neg (by decide), if_pos rfl]
theorem cn_5 {f : Nat → Int32} : T_cn f 5 = f 18 := by
  unfold T_cn T_num
  rw [if_neg (by decide), if_neg (by decide), if_neg (by decide), if_neg (by decide), if_neg (by decide), if_neg (by decide), if_pos rfl]
theorem cn_6 {f : Nat → Int32} : T_cn f 6 = T_least f (f 4).toNatClampNeg := by
  unfold T_cn T_num
  rw [if_neg (by decide), if_neg (by decide), if_neg (by decide), if_neg (by decide), if_neg (by decide), if_neg (by decide), if_neg (by decide), if_pos rfl]
theorem cn_7 {f : Nat → Int32} : T_cn f 7 = T_sum 0 f (f 4).toNatClampNeg := by
  unfold T_cn T_num
  rw [if_neg (by decide), if_neg (by decide), if_neg (by decide), if_neg (by decide), if_neg (by decide), if_neg (by decide), if_neg (by decide), if_neg (by decide), if_pos rfl]
theorem cn_8 {f : Nat → Int32} : T_cn f 8 = T_sum 1 f (f 4).toNatClampNeg := by
  unfold T_cn T_num
  rw [if_neg (by decide), if_neg (by decide), if_neg (by decide), if_neg (by decide), if_neg (by decide), if_neg (by decide), if_neg (by decide), if_neg (by decide), if_neg (by decide), if_pos rfl]
theorem cn_9 {f : Nat → Int32} : T_cn f 9 = f 19 := by
  unfold T_cn T_num
  rw [if_neg (by decide), if_neg (by decide), if_neg (by decide), if_neg (by decide), if_neg (by decide), if_neg (by decide), if_neg (by decide), if_neg (by decide), if_neg (by decide), if_neg (by decide)]
theorem cn_10 {f : Nat → Int32} : T_cn f 10 = f 0 := by
  unfold T_cn
  rw [if_pos (by decide)]
  exact congrArg f (by decide)
theorem cn_11 {f : Nat → Int32} : T_cn f 11 = f 1 := by
  unfold T_cn
  rw [if_pos (by decide)]
  exact congrArg f (by decide)
theorem cn_12 {f : Nat → Int32} : T_cn f 12 = f 2 := by
  unfold T_cn
  rw [if_pos (by decide)]
  exact congrArg f (by decide)
theorem cn_13 {f : Nat → Int32} : T_cn f 13 = f 3 := by
  unfold T_cn
  rw [if_pos (by decide)]
  exact congrArg f (by decide)
theorem rn_0_0 {f : Nat → Int32} (h : 0 < (f 20).toInt) : T_runs f 0 0 = f 21 := by
  unfold T_runs
  rw [if_pos ⟨by decide, Int32.lt_iff_toInt_lt.mpr h, by decide⟩, if_pos (by decide)]
  exact congrArg f (by decide)
theorem rn_0_1 {f : Nat → Int32} (h : 0 < (f 20).toInt) : T_runs f 0 1 = f 22 := by
  unfold T_runs
  rw [if_pos ⟨by decide, Int32.lt_iff_toInt_lt.mpr h, by decide⟩, if_pos (by decide)]
  exact congrArg f (by decide)
theorem rn_0_2 {f : Nat → Int32} (h : 0 < (f 20).toInt) : T_runs f 0 2 = f 23 := by
  unfold T_runs
  rw [if_pos ⟨by decide, Int32.lt_iff_toInt_lt.mpr h, by decide⟩, if_pos (by decide)]
  exact congrArg f (by decide)
theorem rn_0_3 {f : Nat → Int32} (h : 0 < (f 20).toInt) : T_runs f 0 3 = f 24 := by
  unfold T_runs
  rw [if_pos ⟨by decide, Int32.lt_iff_toInt_lt.mpr h, by decide⟩, if_pos (by decide)]
  exact congrArg f (by decide)
theorem rn_9_0 {f : Nat → Int32} (h : 9 < (f 20).toInt) : T_runs f 9 0 = f 57 := by
  unfold T_runs
  rw [if_pos ⟨by decide, Int32.lt_iff_toInt_lt.mpr h, by decide⟩, if_pos (by decide)]
  exact congrArg f (by decide)
theorem rn_no {f : Nat → Int32} {x y : Int32} (h : (f 20).toInt ≤ x.toInt) : T_runs f x y = -1 := by
  unfold T_runs
  rw [if_neg (fun q => by have := Int32.lt_iff_toInt_lt.mp q.2.1; omega)]
theorem ifr_0 {f : Nat → Int32} (h5 : f 5 = 1) (h11 : f 11 = 0) : T_ifr f 0 = (T_roll 20 f 0).1 11 := by
  unfold T_ifr
  rw [if_pos (by decide), if_pos ⟨h5, h11⟩, if_pos rfl]
theorem ifr_1 {f : Nat → Int32} (h5 : f 5 = 1) (h11 : f 11 = 0) : T_ifr f 1 = (T_roll 20 f 0).1 10 := by
  unfold T_ifr
  rw [if_pos (by decide), if_pos ⟨h5, h11⟩, if_neg (by decide), if_pos rfl]
theorem ifr_2 {f : Nat → Int32} (h5 : f 5 = 1) (h11 : f 11 = 0) : T_ifr f 2 = (T_roll 20 f 0).1 7 := by
  unfold T_ifr
  rw [if_pos (by decide), if_pos ⟨h5, h11⟩, if_neg (by decide), if_neg (by decide), if_pos rfl]
theorem ifr_3 {f : Nat → Int32} (h5 : f 5 = 1) (h11 : f 11 = 0) : T_ifr f 3 = (T_roll 20 f 0).2 := by
  unfold T_ifr
  rw [if_pos (by decide), if_pos ⟨h5, h11⟩, if_neg (by decide), if_neg (by decide), if_neg (by decide)]
theorem ifr_no {f : Nat → Int32} (h : ¬ (f 5 = 1 ∧ f 11 = 0)) : T_ifr f 0 = -5 := by
  unfold T_ifr
  rw [if_pos (by decide), if_neg h]
theorem svs_no {f : Nat → Int32} (h : ¬ (f 5 = 1 ∧ f 11 = 0)) : T_svs f 0 = -5 := by
  have e : T_te 0 f = -5 := te_no (Or.inl rfl) h
  unfold T_svs
  rw [e, if_neg (by decide)]
theorem pe_ok {f : Nat → Int32} {k n : Nat} {kd v : Int32} (h4 : f 4 = nI n) (hk : k ≤ n) (hn : n < 20) (hp : 0 ≤ kd ∧ kd ≤ 2 ∧ 1 ≤ v ∧ v ≤ (if kd = 2 then 99 else 9)) : T_pe (nI k) kd v f = 0 := by
  unfold T_pe
  rw [if_pos ⟨nI_le (Nat.zero_le k) (by omega), by rw [h4]; exact nI_le hk (by omega)⟩, if_pos hp, if_neg (by rw [h4]; exact nI_ge (b := 20) hn (by decide))]
theorem pe_full {f : Nat → Int32} {k : Nat} {kd v : Int32} (h4 : f 4 = nI 20) (hk : k ≤ 20) (hp : 0 ≤ kd ∧ kd ≤ 2 ∧ 1 ≤ v ∧ v ≤ (if kd = 2 then 99 else 9)) : T_pe (nI k) kd v f = -4 := by
  unfold T_pe
  rw [if_pos ⟨nI_le (Nat.zero_le k) (by omega), by rw [h4]; exact nI_le hk (by omega)⟩, if_pos hp, if_pos (by rw [h4]; decide)]
