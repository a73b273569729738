/-! HoopStairs$Pad: the fault, signs out of a number -/
/-- the k-th of eight signs in a number, from the last -/
def BYc (c : Int64) (y : Int32) : Int32 := ((c.toUInt64 >>> (y.toInt64.toUInt64 &&& Int64.toUInt64 63)).toInt64 &&& 255).toInt32
def BY (c : Int64) (k : Nat) : Int32 := BYc c (8 * nI k)
def M_ends (c : Int64) : Nat → Prop
  | 0 => False
  | k + 1 => M_ends c k ∨ BY c k = 0
def M_right (c : Int64) : Nat → Prop
  | 0 => True
  | k + 1 => M_right c k ∧ (M_ends c (k + 1) → BY c k = 0) ∧ (¬ M_ends c (k + 1) → 33 ≤ BY c k ∧ BY c k ≤ 126)
noncomputable def M_many (c : Int64) : Nat → Nat
  | 0 => 0
  | k + 1 => if BY c k = 0 then M_many c k else M_many c k + 1
theorem M_many_le (c : Int64) : ∀ k, M_many c k ≤ k
  | 0 => Nat.le_refl 0
  | k + 1 => by
    have := M_many_le c k
    show (if BY c k = 0 then M_many c k else M_many c k + 1) ≤ k + 1
    by_cases h : BY c k = 0
    · rw [if_pos h]; omega
    · rw [if_neg h]; omega
theorem M_right_mono {c : Int64} {i : Nat} (d : Nat) (h : ¬ M_right c i) : ¬ M_right c (i + d) := by
  induction d with
  | zero => exact h
  | succ d ih => exact fun q => ih q.1
/-- the signs of c, m of them, behind the n of pd -/
def APP (pd : Nat → Int32) (c : Int64) (n m : Nat) : Nat → Nat → Int32
  | 0 => pd
  | k + 1 => upd (APP pd c n m k) (n + k) (BY c (m - (k + 1)))
theorem neg_q {q : Nat} (h : nI q - 1 < 0) (hq : q < 1000) : q = 0 := by
  cases q with
  | zero => rfl
  | succ q => rw [nI_pred] at h; exact absurd h (nI_pos (by omega))
noncomputable def M_cnt (c : Int64) : Int32 := by classical exact if M_right c 8 then nI (M_many c 8) else 0
