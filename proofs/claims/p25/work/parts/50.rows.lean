/-! p25: what a run reads of a row; a run step by step -/
def ag (f f' : Nat → Int32) : Prop := (∀ q, q < 14 → f q = f' q) ∧ ∀ k, kindAt f k = kindAt f' k ∧ valAt f k = valAt f' k
theorem ag_rfl {f : Nat → Int32} : ag f f := ⟨fun _ _ => rfl, fun _ => ⟨rfl, rfl⟩⟩
theorem ag_symm {f f' : Nat → Int32} (h : ag f f') : ag f' f := ⟨fun q hq => (h.1 q hq).symm, fun k => ⟨(h.2 k).1.symm, (h.2 k).2.symm⟩⟩
theorem ag_trans {f f' f'' : Nat → Int32} (h : ag f f') (h2 : ag f' f'') : ag f f'' := ⟨fun q hq => (h.1 q hq).trans (h2.1 q hq), fun k => ⟨(h.2 k).1.trans (h2.2 k).1, (h.2 k).2.trans (h2.2 k).2⟩⟩
theorem ag_of {f f' : Nat → Int32} (h : ∀ q, q < 14 ∨ 61 ≤ q → f q = f' q) : ag f f' := ⟨fun q hq => h q (Or.inl hq), fun k => ⟨h _ (Or.inr (by omega)), h _ (Or.inr (by omega))⟩⟩
theorem ag_upd {f f' : Nat → Int32} (h : ag f f') {q : Nat} {v : Int32} (hq : q < 14) : ag (upd f q v) (upd f' q v) := by
  refine ⟨fun p hp => ?_, fun k => ⟨?_, ?_⟩⟩
  · by_cases e : p = q
    · rw [e, upd_s, upd_s]
    · rw [upd_n e, upd_n e]; exact h.1 p hp
  · unfold kindAt
    rw [upd_n (by omega), upd_n (by omega)]; exact (h.2 k).1
  · unfold valAt
    rw [upd_n (by omega), upd_n (by omega)]; exact (h.2 k).2
theorem ag_drop {f f' : Nat → Int32} (x : Int32) (h : ag f f') : ag (T_drop x f) (T_drop x f') := by
  unfold T_drop
  rw [h.1 7 (by decide), h.1 9 (by decide), h.1 1 (by decide), h.1 8 (by decide), h.1 10 (by decide)]
  exact ag_upd (ag_upd (ag_upd h (by decide)) (by decide)) (by decide)
theorem ag_land1 {f f' : Nat → Int32} (h : ag f f') : ag (T_land1 f) (T_land1 f') := by
  unfold T_land1
  rw [h.1 7 (by decide), h.1 9 (by decide), h.1 2 (by decide), h.1 8 (by decide)]
  exact ag_upd (ag_upd (ag_upd h (by decide)) (by decide)) (by decide)
theorem ag_lands (n : Nat) : ∀ {f f' : Nat → Int32}, ag f f' → ag (T_lands n f) (T_lands n f') := by
  induction n with
  | zero => intro f f' h; exact h
  | succ n ih => intro f f' h; exact ih (ag_land1 h)
theorem ag_meet (k : Nat) {f f' : Nat → Int32} (h : ag f f') : ag (T_meet k f).1 (T_meet k f').1 ∧ (T_meet k f).2 = (T_meet k f').2 := by
  unfold T_meet
  rw [(h.2 k).1, (h.2 k).2]
  by_cases a : kindAt f' k = 0
  · rw [if_pos a, if_pos a]; exact ⟨ag_drop _ h, rfl⟩
  · rw [if_neg a, if_neg a]
    by_cases b : kindAt f' k = 1
    · rw [if_pos b, if_pos b]
      have q := ag_lands (valAt f' k).toNatClampNeg h
      refine ⟨q, ?_⟩
      show (if T_lands (valAt f' k).toNatClampNeg f 7 = 0 then (3 : Int32) else 0) = (if T_lands (valAt f' k).toNatClampNeg f' 7 = 0 then (3 : Int32) else 0)
      rw [q.1 7 (by decide)]
    · rw [if_neg b, if_neg b]
      refine ⟨h, ?_⟩
      show (if valAt f' k < f 6 + f 9 / 4 then (2 : Int32) else 0) = (if valAt f' k < f' 6 + f' 9 / 4 then (2 : Int32) else 0)
      rw [h.1 6 (by decide), h.1 9 (by decide)]
theorem ag_pass (k : Nat) (g : Int32) {f f' : Nat → Int32} (h : ag f f') : ag (T_pass k f g).1 (T_pass k f' g).1 ∧ (T_pass k f g).2 = (T_pass k f' g).2 := by
  obtain ⟨m1, m2⟩ := ag_meet k h
  unfold T_pass
  rw [m2, m1.1 8 (by decide), h.1 0 (by decide), h.1 10 (by decide)]
  by_cases a : (T_meet k f').2 = 0
  · rw [if_pos a, if_pos a]
    by_cases b : f' 0 ≤ iabs ((T_meet k f').1 8)
    · rw [if_pos b, if_pos b]; exact ⟨m1, rfl⟩
    · rw [if_neg b, if_neg b]; exact ⟨ag_upd m1 (by decide), rfl⟩
  · rw [if_neg a, if_neg a]; exact ⟨m1, rfl⟩
theorem ag_step (g : Int32) {f f' : Nat → Int32} (h : ag f f') : ag (T_step f g).1 (T_step f' g).1 ∧ (T_step f g).2 = (T_step f' g).2 := by
  obtain ⟨m1, m2⟩ := ag_pass (f' 10).toNatClampNeg g h
  unfold T_step
  rw [h.1 10 (by decide), h.1 4 (by decide), m2]
  by_cases a : f' 10 < f' 4
  · rw [if_pos a, if_pos a]
    by_cases b : (T_pass (f' 10).toNatClampNeg f' g).2.2 = 0
    · rw [if_pos b, if_pos b]
      by_cases d : f' 10 + 1 < f' 4
      · rw [if_pos d, if_pos d]; exact ⟨m1, rfl⟩
      · rw [if_neg d, if_neg d]; exact ⟨ag_upd m1 (by decide), rfl⟩
    · rw [if_neg b, if_neg b]; exact ⟨ag_upd m1 (by decide), rfl⟩
  · rw [if_neg a, if_neg a]; exact ⟨ag_upd h (by decide), rfl⟩
theorem ag_roll (n : Nat) : ∀ {f f' : Nat → Int32} {g : Int32}, ag f f' → ag (T_roll n f g).1 (T_roll n f' g).1 ∧ (T_roll n f g).2 = (T_roll n f' g).2 := by
  induction n with
  | zero => intro f f' g h; exact ⟨h, rfl⟩
  | succ n ih =>
    intro f f' g h
    show ag (if f 11 = 0 then T_roll n (T_step f g).1 (T_step f g).2 else (f, g)).1 (if f' 11 = 0 then T_roll n (T_step f' g).1 (T_step f' g).2 else (f', g)).1 ∧ (if f 11 = 0 then T_roll n (T_step f g).1 (T_step f g).2 else (f, g)).2 = (if f' 11 = 0 then T_roll n (T_step f' g).1 (T_step f' g).2 else (f', g)).2
    rw [h.1 11 (by decide)]
    by_cases a : f' 11 = 0
    · rw [if_pos a, if_pos a, (ag_step g h).2]; exact ih (ag_step g h).1
    · rw [if_neg a, if_neg a]; exact ⟨h, rfl⟩
/-- the row doesn't know the greatest lean -/
theorem pss_g (k : Nat) (f : Nat → Int32) (g g' : Int32) : (T_pass k f g).1 = (T_pass k f g').1 ∧ (T_pass k f g).2.2 = (T_pass k f g').2.2 := by
  unfold T_pass
  by_cases a : (T_meet k f).2 = 0
  · rw [if_pos a, if_pos a]
    by_cases b : f 0 ≤ iabs ((T_meet k f).1 8)
    · rw [if_pos b, if_pos b]; exact ⟨rfl, rfl⟩
    · rw [if_neg b, if_neg b]; exact ⟨rfl, rfl⟩
  · rw [if_neg a, if_neg a]; exact ⟨rfl, rfl⟩
theorem stp_g (f : Nat → Int32) (g g' : Int32) : (T_step f g).1 = (T_step f g').1 := by
  obtain ⟨p1, p2⟩ := pss_g (f 10).toNatClampNeg f g g'
  unfold T_step
  rw [p2]
  by_cases a : f 10 < f 4
  · rw [if_pos a, if_pos a]
    by_cases b : (T_pass (f 10).toNatClampNeg f g').2.2 = 0
    · rw [if_pos b, if_pos b]
      by_cases d : f 10 + 1 < f 4
      · rw [if_pos d, if_pos d]; exact p1
      · rw [if_neg d, if_neg d]; show upd (T_pass (f 10).toNatClampNeg f g).1 11 4 = upd (T_pass (f 10).toNatClampNeg f g').1 11 4; rw [p1]
    · rw [if_neg b, if_neg b]; show upd (T_pass (f 10).toNatClampNeg f g).1 11 _ = upd (T_pass (f 10).toNatClampNeg f g').1 11 _; rw [p1]
  · rw [if_neg a, if_neg a]
/-- how the run is behind the part k -/
def T_hw (f : Nat → Int32) (k : Nat) : Int32 := if (T_meet k f).2 = 0 then (if f 0 ≤ iabs ((T_meet k f).1 8) then 1 else if f 10 + 1 < f 4 then 0 else 4) else (T_meet k f).2
theorem step_at {f : Nat → Int32} {g : Int32} {k n : Nat} (h10 : f 10 = nI k) (h4 : f 4 = nI n) (hk : k < n) (hn : n ≤ 20) (h11 : f 11 = 0) :
    (T_step f g).1 11 = T_hw f k ∧ (∀ q, q ≠ 10 → q ≠ 11 → (T_step f g).1 q = (T_meet k f).1 q) ∧ (T_step f g).1 10 = (if T_hw f k = 0 ∨ T_hw f k = 4 then f 10 + 1 else f 10) ∧
    (T_step f g).2 = (if (T_meet k f).2 = 0 then (if g < iabs ((T_meet k f).1 8) then iabs ((T_meet k f).1 8) else g) else g) := by
  have lt : f 10 < f 4 := by rw [h10, h4]; exact nI_lt hk (by omega)
  have ck : (f 10).toNatClampNeg = k := by rw [h10]; exact nI_clamp (by omega)
  have m10 : (T_meet k f).1 10 = f 10 := T_meet_fr (by decide) (by decide) (by decide)
  have m11 : (T_meet k f).1 11 = f 11 := T_meet_fr (by decide) (by decide) (by decide)
  generalize eG : (if g < iabs ((T_meet k f).1 8) then iabs ((T_meet k f).1 8) else g) = G
  by_cases a : (T_meet k f).2 = 0
  · rw [if_pos a]
    by_cases b : f 0 ≤ iabs ((T_meet k f).1 8)
    · have e : T_step f g = (upd (T_meet k f).1 11 1, G) := by
        unfold T_step T_pass
        rw [if_pos lt, ck, if_pos a, if_pos b, eG, if_neg (show ¬ (1 : Int32) = 0 by decide)]
      have ew : T_hw f k = 1 := by
        unfold T_hw
        rw [if_pos a, if_pos b]
      rw [e, ew]
      show upd (T_meet k f).1 11 1 11 = 1 ∧ (∀ q, q ≠ 10 → q ≠ 11 → upd (T_meet k f).1 11 1 q = (T_meet k f).1 q) ∧ upd (T_meet k f).1 11 1 10 = (if (1 : Int32) = 0 ∨ (1 : Int32) = 4 then f 10 + 1 else f 10) ∧ G = G
      refine ⟨upd_s, fun q _ hb => upd_n hb, ?_, rfl⟩
      rw [if_neg (show ¬ ((1 : Int32) = 0 ∨ (1 : Int32) = 4) by decide), upd_n (show 10 ≠ 11 by decide), m10]
    · by_cases d : f 10 + 1 < f 4
      · have e : T_step f g = (upd (T_meet k f).1 10 (f 10 + 1), G) := by
          unfold T_step T_pass
          rw [if_pos lt, ck, if_pos a, if_neg b, eG, if_pos (show (0 : Int32) = 0 from rfl), if_pos d]
        have ew : T_hw f k = 0 := by
          unfold T_hw
          rw [if_pos a, if_neg b, if_pos d]
        rw [e, ew]
        show upd (T_meet k f).1 10 (f 10 + 1) 11 = 0 ∧ (∀ q, q ≠ 10 → q ≠ 11 → upd (T_meet k f).1 10 (f 10 + 1) q = (T_meet k f).1 q) ∧ upd (T_meet k f).1 10 (f 10 + 1) 10 = (if (0 : Int32) = 0 ∨ (0 : Int32) = 4 then f 10 + 1 else f 10) ∧ G = G
        refine ⟨?_, fun q ha _ => upd_n ha, ?_, rfl⟩
        · rw [upd_n (show 11 ≠ 10 by decide), m11, h11]
        · rw [if_pos (Or.inl rfl), upd_s]
      · have e : T_step f g = (upd (upd (T_meet k f).1 10 (f 10 + 1)) 11 4, G) := by
          unfold T_step T_pass
          rw [if_pos lt, ck, if_pos a, if_neg b, eG, if_pos (show (0 : Int32) = 0 from rfl), if_neg d]
        have ew : T_hw f k = 4 := by
          unfold T_hw
          rw [if_pos a, if_neg b, if_neg d]
        rw [e, ew]
        show upd (upd (T_meet k f).1 10 (f 10 + 1)) 11 4 11 = 4 ∧ (∀ q, q ≠ 10 → q ≠ 11 → upd (upd (T_meet k f).1 10 (f 10 + 1)) 11 4 q = (T_meet k f).1 q) ∧ upd (upd (T_meet k f).1 10 (f 10 + 1)) 11 4 10 = (if (4 : Int32) = 0 ∨ (4 : Int32) = 4 then f 10 + 1 else f 10) ∧ G = G
        refine ⟨upd_s, fun q ha hb => by rw [upd_n hb, upd_n ha], ?_, rfl⟩
        rw [if_pos (Or.inr rfl), upd_n (show 10 ≠ 11 by decide), upd_s]
  · rw [if_neg a]
    have e : T_step f g = (upd (T_meet k f).1 11 (T_meet k f).2, g) := by
      unfold T_step T_pass
      rw [if_pos lt, ck, if_neg a, if_neg a]
    have ew : T_hw f k = (T_meet k f).2 := by
      unfold T_hw
      rw [if_neg a]
    rw [e, ew]
    show upd (T_meet k f).1 11 (T_meet k f).2 11 = (T_meet k f).2 ∧ (∀ q, q ≠ 10 → q ≠ 11 → upd (T_meet k f).1 11 (T_meet k f).2 q = (T_meet k f).1 q) ∧ upd (T_meet k f).1 11 (T_meet k f).2 10 = (if (T_meet k f).2 = 0 ∨ (T_meet k f).2 = 4 then f 10 + 1 else f 10) ∧ g = g
    refine ⟨upd_s, fun q _ hb => upd_n hb, ?_, rfl⟩
    rw [upd_n (show 10 ≠ 11 by decide), m10]
    rcases T_meet_how k f with z | z | z
    · exact absurd z a
    · rw [z, if_neg (show ¬ ((2 : Int32) = 0 ∨ (2 : Int32) = 4) by decide)]
    · rw [z, if_neg (show ¬ ((3 : Int32) = 0 ∨ (3 : Int32) = 4) by decide)]
theorem step_past {f : Nat → Int32} {g : Int32} (h : ¬ f 10 < f 4) : T_step f g = (upd f 11 4, g) := by
  unfold T_step
  rw [if_neg h]
theorem roll1 {f : Nat → Int32} {g : Int32} (h11 : f 11 = 0) : T_roll 1 f g = T_step f g := by
  show (if f 11 = 0 then T_roll 0 (T_step f g).1 (T_step f g).2 else (f, g)) = _
  rw [if_pos h11]
  rfl
theorem roll_over {f : Nat → Int32} {g : Int32} (n : Nat) (h11 : ¬ f 11 = 0) : T_roll n f g = (f, g) := by
  cases n with
  | zero => rfl
  | succ n => show (if f 11 = 0 then T_roll n (T_step f g).1 (T_step f g).2 else (f, g)) = _; rw [if_neg h11]
/-- behind an end: what a run reads is as before -/
theorem ag_lists {f : Nat → Int32} : ag (T_lists f) f := ag_of (fun q hq => lists_out (by omega))
theorem ag_ends {f : Nat → Int32} (hE : endedOk f) : ag (T_ends f) f := by
  rcases hE with h | ⟨k, we, h1, h2, h3, h4, h5, h6⟩
  · rw [ends_p h]
    exact ag_trans ag_lists (ag_of (fun q hq => upd_n (by omega)))
  · rw [ends_a h5 h6 h1 h3 h4]
    refine ag_trans ag_lists ⟨fun q hq => by rw [upd_n (by omega), upd_n (by omega)], fun j => ⟨?_, ?_⟩⟩
    · unfold kindAt
      rw [upd_n (by omega), upd_n (by omega)]
    · unfold valAt
      rw [upd_n (by omega), upd_n (by omega)]
/-- the row behind a roll over one part -/
theorem rolled1 {B : Int} {f : Nat → Int32} (hok : okRow B f) (hB : B + 25 ≤ 900000000) (h5 : f 5 = 1) (h11 : f 11 = 0) :
    ((T_step f 0).1 11 = 0 ∧ T_rolled 1 f 0 = (T_step f 0).1) ∨ (¬ (T_step f 0).1 11 = 0 ∧ endedOk (T_step f 0).1 ∧ T_rolled 1 f 0 = T_ends (T_step f 0).1) := by
  have q := step_how (g := 0) hok.1 (hok.2.2.1 h5) h11
  by_cases a : (T_step f 0).1 11 = 0
  · left
    exact ⟨a, by rw [rolled_out (by rw [roll1 h11]; exact a), roll1 h11]⟩
  · right
    exact ⟨a, q.resolve_left a, by rw [rolled_end (by rw [roll1 h11]; exact a), roll1 h11]⟩
theorem rolled1_ag {B : Int} {f : Nat → Int32} (hok : okRow B f) (hB : B + 25 ≤ 900000000) (h5 : f 5 = 1) (h11 : f 11 = 0) : ag (T_rolled 1 f 0) (T_step f 0).1 := by
  rcases rolled1 hok hB h5 h11 with ⟨_, h⟩ | ⟨_, h1, h⟩
  · rw [h]; exact ag_rfl
  · rw [h]; exact ag_ends h1
