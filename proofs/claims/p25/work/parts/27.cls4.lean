/-! HoopStairs: carry out -/
/-- the orders from a on, one after the other, until one cannot be -/
def T_co (pd : Nat → Int32) (n : Nat) : Nat → (Nat → Int32) → Nat → Nat → (Nat → Int32) × Nat
  | 0, f, _, d => (f, d)
  | m + 1, f, a, d => if P_ok pd n a then (if T_err f (chr_ pd n a) (P_no pd n a) = 0 then T_co pd n m (T_do f (chr_ pd n a) (P_no pd n a)) (if chr_ pd n (P_end pd n a) = 59 then P_end pd n a + 1 else P_end pd n a) (d + 1) else (f, d)) else (f, d)
theorem okRow_co {pd : Nat → Int32} {n : Nat} (m : Nat) : ∀ {B : Int} {f : Nat → Int32} {a d : Nat}, 0 ≤ B → B + 525 * m + 600 ≤ 900000000 → okRow B f → okRow (B + 525 * m) (T_co pd n m f a d).1 := by
  induction m with
  | zero => intro B f a d h0 hb h; exact okRow_mono (by omega) h
  | succ m ih =>
    intro B f a d h0 hb h
    show okRow _ (if P_ok pd n a then (if T_err f (chr_ pd n a) (P_no pd n a) = 0 then T_co pd n m (T_do f (chr_ pd n a) (P_no pd n a)) (if chr_ pd n (P_end pd n a) = 59 then P_end pd n a + 1 else P_end pd n a) (d + 1) else (f, d)) else (f, d)).1
    by_cases p : P_ok pd n a
    · rw [if_pos p]
      by_cases e : T_err f (chr_ pd n a) (P_no pd n a) = 0
      · rw [if_pos e]
        have q := ih (a := if chr_ pd n (P_end pd n a) = 59 then P_end pd n a + 1 else P_end pd n a) (d := d + 1) (by omega) (by omega) (okRow_do h0 (by omega) h e)
        exact okRow_mono (by omega) q
      · rw [if_neg e]; exact okRow_mono (by omega) h
    · rw [if_neg p]; exact okRow_mono (by omega) h
theorem add_m1 {m i : Nat} (h : i < m) : m - i = m - (i + 1) + 1 := by omega
def T_out (f : Nat → Int32) (pd : Nat → Int32) (n : Nat) : (Nat → Int32) × Nat := T_co pd n 80 f 0 0
