/-! HoopStairsModel: its world; its small methods -/
def put (P : Nat) (r s0 : Nat → Int32) : Nat → Int32 := fun j => if P ≤ j ∧ j < P + 161 then r (j - P) else s0 j
abbrev mdO (ad : Nat → Nat) (o : Nat) (kn n gr : Int32) : va_E := .inr (8, [.ref (ad (o + 1)), .ref (ad (o + 2)), .int kn, .ref (ad (o + 3)), .ref (ad (o + 4)), .ref (ad (o + 5)), .int n, .int gr])
abbrev sA (Y : Nat → ClassId) (P : Nat) (r s0 : Nat → Int32) : va_E := .inl (Y 0, 322, .inl (put P r s0))
/-- the world with the model at o: its object, and its numbers with the row r at P -/
def mW (Y : Nat → ClassId) (ad : Nat → Nat) (C : Nat → va_E) (o : Nat) (kn n gr : Int32) (P : Nat) (r s0 : Nat → Int32) : Nat → va_E := va_up (va_up C o (mdO ad o kn n gr)) (o + 1) (sA Y P r s0)
theorem ix_add {a b : Int32} {X Y Z : Nat} (h1 : a = nI X) (h2 : b = nI Y) (h3 : X + Y = Z) : a + b = nI Z := by subst h1 h2 h3; exact nI_add X Y
theorem ix_sub {a : Int32} {X c Z : Nat} (h1 : a = nI X) (h2 : Z + c = X) : a - nI c = nI Z := by subst h1 h2; rw [← nI_add, Int32.add_sub_cancel]
theorem nI_mul (a b : Nat) : nI a * nI b = nI (a * b) := by
  show Int32.ofNat a * Int32.ofNat b = Int32.ofNat (a * b)
  rw [Int32.ofNat_mul]
theorem ix_mul {a b : Int32} {X Y : Nat} (h1 : a = nI X) (h2 : b = nI Y) : a * b = nI (X * Y) := by subst h1 h2; exact nI_mul X Y
theorem b_z {r : Int32} {c : Prop} [Decidable c] (h : r = if c then 1 else 0) : r = 0 ∨ r = 1 := by
  by_cases q : c
  · rw [if_pos q] at h; exact Or.inr h
  · rw [if_neg q] at h; exact Or.inl h
theorem put_at {P K k : Nat} {r s0 : Nat → Int32} (h : K = P + k) (hk : k < 161) : put P r s0 K = r k := by
  subst h
  unfold put
  rw [if_pos (by omega), show P + k - P = k by omega]
theorem put_upd {P K k : Nat} {r s0 : Nat → Int32} {v : Int32} (h : K = P + k) (hk : k < 161) : upd (put P r s0) K v = put P (upd r k v) s0 := by
  subst h
  funext j
  by_cases a : j = P + k
  · subst a
    rw [upd_s, put_at rfl hk, upd_s]
  · rw [upd_n a]
    unfold put
    by_cases b : P ≤ j ∧ j < P + 161
    · rw [if_pos b, if_pos b, upd_n (by omega)]
    · rw [if_neg b, if_neg b]
theorem put_cong {P : Nat} {r r' s0 : Nat → Int32} (h : ∀ j, j < 161 → r j = r' j) : put P r s0 = put P r' s0 := by
  funext j
  unfold put
  by_cases b : P ≤ j ∧ j < P + 161
  · rw [if_pos b, if_pos b, h _ (by omega)]
  · rw [if_neg b, if_neg b]
section MW
variable {Y : Nat → ClassId} {ad : Nat → Nat} {C : Nat → va_E} {o : Nat} {kn n gr : Int32} {P : Nat} {r s0 : Nat → Int32}
theorem mW_s : mW Y ad C o kn n gr P r s0 (o + 1) = .inl (Y 0, 322, .inl (put P r s0)) := va_up_self _ _ _
theorem mW_o : mW Y ad C o kn n gr P r s0 o = mdO ad o kn n gr := (va_up_ne _ _ (by omega)).trans (va_up_self _ _ _)
theorem mW_x {j : Nat} (h : j ≠ o) (h1 : j ≠ o + 1) : mW Y ad C o kn n gr P r s0 j = C j := (va_up_ne _ _ h1).trans (va_up_ne _ _ h)
theorem mW_upds {K k : Nat} {v : Int32} (h : K = P + k) (hk : k < 161) : va_up (mW Y ad C o kn n gr P r s0) (o + 1) (.inl (Y 0, 322, .inl (upd (put P r s0) K v))) = mW Y ad C o kn n gr P (upd r k v) s0 := by
  rw [put_upd h hk]
  exact uu
theorem mW_updo {kn' n' gr' : Int32} : va_up (mW Y ad C o kn n gr P r s0) o (mdO ad o kn' n' gr') = mW Y ad C o kn' n' gr' P r s0 := by
  funext j
  unfold mW va_up
  by_cases a : j = o
  · rw [if_pos a, if_neg (by omega), if_pos a]
  · rw [if_neg a]
    by_cases b : j = o + 1
    · rw [if_pos b, if_pos b]
    · rw [if_neg b, if_neg b, if_neg a, if_neg a]
theorem mW_upx {q : Nat} {e : va_E} (h : q ≠ o) (h1 : q ≠ o + 1) : va_up (mW Y ad C o kn n gr P r s0) q e = mW Y ad (va_up C q e) o kn n gr P r s0 := by
  funext j
  unfold mW va_up
  by_cases a : j = q
  · subst a
    rw [if_pos rfl, if_neg h1, if_neg h, if_pos rfl]
  · rw [if_neg a]
    by_cases b : j = o + 1
    · rw [if_pos b, if_pos b]
    · rw [if_neg b, if_neg b]
      by_cases c : j = o
      · rw [if_pos c, if_pos c]
      · rw [if_neg c, if_neg c, if_neg a]
theorem mW_id (h : C o = mdO ad o kn n gr) (h1 : C (o + 1) = sA Y P r s0) : C = mW Y ad C o kn n gr P r s0 := by
  funext j
  unfold mW va_up
  by_cases b : j = o + 1
  · rw [if_pos b, b, h1]
  · rw [if_neg b]
    by_cases c : j = o
    · rw [if_pos c, c, h]
    · rw [if_neg c]
theorem mW_cong {r' : Nat → Int32} (h : ∀ j, j < 161 → r j = r' j) : mW Y ad C o kn n gr P r s0 = mW Y ad C o kn n gr P r' s0 := by
  unfold mW sA
  rw [put_cong h]
end MW
set_option maxRecDepth 20000 in
set_option maxHeartbeats 4000000 in
/-- is it within -/
theorem c_X8_in (l : Launch) (D : va_G) (Y : Nat → ClassId) (ad : Nat → Nat) (N : Nat) (hI : wI ad N) (C : Nat → va_E) (x a b : Int32) : Met l yX8_in (wm yX8_in cX8_in 3 (some .boolean)) { frames := 0, cells := 0, slots := 0, locals := 0 } (wPc D Y ad N [.int (x), .int (a), .int (b)] C) (wQi D ad N (fun r C' => C' = C ∧ r = if a ≤ x ∧ x ≤ b then 1 else 0)) 0 0 (wA ad N) := by
  refine wMet RX8 rfl (by decide +kernel) (Nat.le_of_ble_eq_true rfl) (lv := [(0, .int (x)), (1, .int (a)), (2, .int (b))]) rfl ?_
  intro p e s m below meth c ls F hr hlocks hP hl
  have hS : va_S (wA ad N) s.heap s.heap [] := va_S.rf
  refine lv_iload_n F.1 F.2.1 dX8_in_0 rfl (lv_at hl 0 rfl) ?_
  refine lv_iload_n F.1 F.2.1 dX8_in_1 rfl (lv_at hl 1 rfl) ?_
  refine lv_icmp_lt (tgt := 14) F.1 F.2.1 dX8_in_2 (by decide) (fun c1 => ?_) (fun c1 => ?_)
  · refine lv_iconst (v := 0) F.1 F.2.1 dX8_in_14 (by decide) ?_
    exact w_zret F hr hlocks hP hS (Or.inl rfl) dX8_in_15 ⟨rfl, (if_neg (fun q => i_nle c1 q.1)).symm⟩
  · refine lv_iload_n F.1 F.2.1 dX8_in_5 rfl (lv_at hl 0 rfl) ?_
    refine lv_iload_n F.1 F.2.1 dX8_in_6 rfl (lv_at hl 2 rfl) ?_
    refine lv_icmp_gt (tgt := 14) F.1 F.2.1 dX8_in_7 (by decide) (fun c2 => ?_) (fun c2 => ?_)
    · refine lv_iconst (v := 0) F.1 F.2.1 dX8_in_14 (by decide) ?_
      exact w_zret F hr hlocks hP hS (Or.inl rfl) dX8_in_15 ⟨rfl, (if_neg (fun q => i_nle c2 q.2)).symm⟩
    · refine lv_iconst (v := 1) F.1 F.2.1 dX8_in_10 (by decide) ?_
      refine lv_goto (tgt := 15) F.1 F.2.1 dX8_in_11 (by decide) ?_
      exact w_zret F hr hlocks hP hS (Or.inr rfl) dX8_in_15 ⟨rfl, (if_pos ⟨i_le c1, i_le c2⟩).symm⟩
set_option maxRecDepth 20000 in
set_option maxHeartbeats 4000000 in
/-- the less -/
theorem c_X8_less (l : Launch) (D : va_G) (Y : Nat → ClassId) (ad : Nat → Nat) (N : Nat) (hI : wI ad N) (C : Nat → va_E) (x y : Int32) : Met l yX8_less (wm yX8_less cX8_less 2 (some .int)) { frames := 0, cells := 0, slots := 0, locals := 0 } (wPc D Y ad N [.int (x), .int (y)] C) (wQi D ad N (fun r C' => C' = C ∧ r = if x < y then x else y)) 0 0 (wA ad N) := by
  refine wMet RX8 rfl (by decide +kernel) (Nat.le_of_ble_eq_true rfl) (lv := [(0, .int (x)), (1, .int (y))]) rfl ?_
  intro p e s m below meth c ls F hr hlocks hP hl
  have hS : va_S (wA ad N) s.heap s.heap [] := va_S.rf
  refine lv_iload_n F.1 F.2.1 dX8_less_0 rfl (lv_at hl 0 rfl) ?_
  refine lv_iload_n F.1 F.2.1 dX8_less_1 rfl (lv_at hl 1 rfl) ?_
  refine lv_icmp_ge (tgt := 9) F.1 F.2.1 dX8_less_2 (by decide) (fun c1 => ?_) (fun c1 => ?_)
  · refine lv_iload_n F.1 F.2.1 dX8_less_9 rfl (lv_at hl 1 rfl) ?_
    exact w_iret F hr hlocks hP hS dX8_less_10 ⟨rfl, (if_neg (i_nlt c1)).symm⟩
  · refine lv_iload_n F.1 F.2.1 dX8_less_5 rfl (lv_at hl 0 rfl) ?_
    refine lv_goto (tgt := 10) F.1 F.2.1 dX8_less_6 (by decide) ?_
    exact w_iret F hr hlocks hP hS dX8_less_10 ⟨rfl, (if_pos (i_lt c1)).symm⟩
set_option maxRecDepth 20000 in
set_option maxHeartbeats 4000000 in
/-- the size -/
theorem c_X8_size (l : Launch) (D : va_G) (Y : Nat → ClassId) (ad : Nat → Nat) (N : Nat) (hI : wI ad N) (C : Nat → va_E) (x : Int32) : Met l yX8_size (wm yX8_size cX8_size 1 (some .int)) { frames := 0, cells := 0, slots := 0, locals := 0 } (wPc D Y ad N [.int (x)] C) (wQi D ad N (fun r C' => C' = C ∧ r = iabs x)) 0 0 (wA ad N) := by
  refine wMet RX8 rfl (by decide +kernel) (Nat.le_of_ble_eq_true rfl) (lv := [(0, .int (x))]) rfl ?_
  intro p e s m below meth c ls F hr hlocks hP hl
  have hS : va_S (wA ad N) s.heap s.heap [] := va_S.rf
  refine lv_iload_n F.1 F.2.1 dX8_size_0 rfl (lv_at hl 0 rfl) ?_
  refine lv_if_ge (tgt := 9) F.1 F.2.1 dX8_size_1 (by decide) (fun c1 => ?_) (fun c1 => ?_)
  · refine lv_iload_n F.1 F.2.1 dX8_size_9 rfl (lv_at hl 0 rfl) ?_
    exact w_iret F hr hlocks hP hS dX8_size_10 ⟨rfl, (if_neg (i_nlt c1)).symm⟩
  · refine lv_iload_n F.1 F.2.1 dX8_size_4 rfl (lv_at hl 0 rfl) ?_
    refine lv_ineg F.1 F.2.1 dX8_size_5 ?_
    refine lv_goto (tgt := 10) F.1 F.2.1 dX8_size_6 (by decide) ?_
    exact w_iret F hr hlocks hP hS dX8_size_10 ⟨rfl, (if_pos (i_lt c1)).symm⟩
set_option maxRecDepth 20000 in
set_option maxHeartbeats 4000000 in
/-- where a part lies -/
theorem c_X8_at (l : Launch) (D : va_G) (Y : Nat → ClassId) (ad : Nat → Nat) (N : Nat) (hI : wI ad N) (C : Nat → va_E) (x y : Int32) : Met l yX8_at (wm yX8_at cX8_at 2 (some .int)) { frames := 0, cells := 0, slots := 0, locals := 0 } (wPc D Y ad N [.int (x), .int (y)] C) (wQi D ad N (fun r C' => C' = C ∧ r = x + 61 + 5 * y)) 0 0 (wA ad N) := by
  refine wMet RX8 rfl (by decide +kernel) (Nat.le_of_ble_eq_true rfl) (lv := [(0, .int (x)), (1, .int (y))]) rfl ?_
  intro p e s m below meth c ls F hr hlocks hP hl
  have hS : va_S (wA ad N) s.heap s.heap [] := va_S.rf
  refine lv_iload_n F.1 F.2.1 dX8_at_0 rfl (lv_at hl 0 rfl) ?_
  refine lv_bipush (v := 61) F.1 F.2.1 dX8_at_1 (by decide) ?_
  refine lv_iadd F.1 F.2.1 dX8_at_3 ?_
  refine lv_iconst (v := 5) F.1 F.2.1 dX8_at_4 (by decide) ?_
  refine lv_iload_n F.1 F.2.1 dX8_at_5 rfl (lv_at hl 1 rfl) ?_
  refine lv_imul F.1 F.2.1 dX8_at_6 ?_
  refine lv_iadd F.1 F.2.1 dX8_at_7 ?_
  exact w_iret F hr hlocks hP hS dX8_at_8 ⟨rfl, rfl⟩
set_option maxRecDepth 20000 in
set_option maxHeartbeats 4000000 in
/-- is it a part -/
theorem c_X8_isPart (l : Launch) (D : va_G) (Y : Nat → ClassId) (ad : Nat → Nat) (N : Nat) (hI : wI ad N) (C : Nat → va_E) (o : Nat) (hh : o + 6 ≤ N) (kn n gr : Int32) (r s0 : Nat → Int32) (x : Int32) : Met l yX8_isPart (wm yX8_isPart cX8_isPart 2 (some .boolean)) { frames := 1, cells := 0, slots := 0, locals := 22 } (wPc D Y ad N [.ref (ad o), .int (x)] (mW Y ad C o kn n gr 0 r s0)) (wQi D ad N (fun q C' => C' = mW Y ad C o kn n gr 0 r s0 ∧ q = if 0 ≤ x ∧ x ≤ r 4 - 1 then 1 else 0)) 0 0 (wA ad N) := by
  refine wMet RX8 rfl (by decide +kernel) (Nat.le_of_ble_eq_true rfl) (lv := [(0, .ref (ad o)), (1, .int (x))]) rfl ?_
  intro p e s m below meth c ls F hr hlocks hP hl
  have hS : va_S (wA ad N) s.heap s.heap [] := va_S.rf
  refine lv_iload_n F.1 F.2.1 dX8_isPart_0 rfl (lv_at hl 1 rfl) ?_
  refine lv_iconst (v := 0) F.1 F.2.1 dX8_isPart_1 (by decide) ?_
  refine lv_aload_n F.1 F.2.1 dX8_isPart_2 rfl (lv_at hl 0 rfl) ?_
  refine gf_X8_7 F hP (by omega) mW_o (v := .ref (ad (o + 1))) rfl dX8_isPart_3 ?_
  refine lv_iconst (v := 4) F.1 F.2.1 dX8_isPart_6 (by decide) ?_
  refine w_iald F hP (by omega) mW_s (k := 4) rfl (by omega) (Nat.le_of_ble_eq_true rfl) (v := r 4) (put_at (k := 4) (by omega) (by omega)) dX8_isPart_7 ?_
  refine lv_iconst (v := 1) F.1 F.2.1 dX8_isPart_8 (by decide) ?_
  refine lv_isub F.1 F.2.1 dX8_isPart_9 ?_
  refine w_calls F hP hS (c_X8_in l D Y ad N hI _ x 0 ((r 4) - 1)) (cwSm 3 F.2.2.2.2.1 (fun _ h => h) mw_183 mw_181 mw_182 mw_5 rfl rfl ydX8_in ⟨by decide, by decide⟩) rfl hl.1 rfl (Nat.le_of_ble_eq_true rfl) dX8_isPart_10 ⟨Nat.zero_le _, Nat.zero_le _⟩ (fun rq1 Kq1 H locs hq1 hP hS => ?_)
  obtain ⟨hq1w, hq1r⟩ := hq1; rw [hq1w] at hP
  exact w_zret F hr hlocks hP hS (b_z hq1r) dX8_isPart_13 ⟨rfl, hq1r⟩
set_option maxRecDepth 20000 in
set_option maxHeartbeats 4000000 in
/-- does it roll -/
theorem c_X8_isRolling (l : Launch) (D : va_G) (Y : Nat → ClassId) (ad : Nat → Nat) (N : Nat) (hI : wI ad N) (C : Nat → va_E) (o : Nat) (hh : o + 6 ≤ N) (kn n gr : Int32) (r s0 : Nat → Int32) : Met l yX8_isRolling (wm yX8_isRolling cX8_isRolling 1 (some .boolean)) { frames := 0, cells := 0, slots := 0, locals := 0 } (wPc D Y ad N [.ref (ad o)] (mW Y ad C o kn n gr 0 r s0)) (wQi D ad N (fun q C' => C' = mW Y ad C o kn n gr 0 r s0 ∧ q = if r 5 = 1 ∧ r 11 = 0 then 1 else 0)) 0 0 (wA ad N) := by
  refine wMet RX8 rfl (by decide +kernel) (Nat.le_of_ble_eq_true rfl) (lv := [(0, .ref (ad o))]) rfl ?_
  intro p e s m below meth c ls F hr hlocks hP hl
  have hS : va_S (wA ad N) s.heap s.heap [] := va_S.rf
  refine lv_aload_n F.1 F.2.1 dX8_isRolling_0 rfl (lv_at hl 0 rfl) ?_
  refine gf_X8_7 F hP (by omega) mW_o (v := .ref (ad (o + 1))) rfl dX8_isRolling_1 ?_
  refine lv_iconst (v := 5) F.1 F.2.1 dX8_isRolling_4 (by decide) ?_
  refine w_iald F hP (by omega) mW_s (k := 5) rfl (by omega) (Nat.le_of_ble_eq_true rfl) (v := r 5) (put_at (k := 5) (by omega) (by omega)) dX8_isRolling_5 ?_
  refine lv_iconst (v := 1) F.1 F.2.1 dX8_isRolling_6 (by decide) ?_
  refine lv_icmp_ne (tgt := 24) F.1 F.2.1 dX8_isRolling_7 (by decide) (fun c1 => ?_) (fun c1 => ?_)
  · refine lv_iconst (v := 0) F.1 F.2.1 dX8_isRolling_24 (by decide) ?_
    exact w_zret F hr hlocks hP hS (Or.inl rfl) dX8_isRolling_25 ⟨rfl, (if_neg (fun q => c1 q.1)).symm⟩
  · refine lv_aload_n F.1 F.2.1 dX8_isRolling_10 rfl (lv_at hl 0 rfl) ?_
    refine gf_X8_7 F hP (by omega) mW_o (v := .ref (ad (o + 1))) rfl dX8_isRolling_11 ?_
    refine lv_bipush (v := 11) F.1 F.2.1 dX8_isRolling_14 (by decide) ?_
    refine w_iald F hP (by omega) mW_s (k := 11) rfl (by omega) (Nat.le_of_ble_eq_true rfl) (v := r 11) (put_at (k := 11) (by omega) (by omega)) dX8_isRolling_16 ?_
    refine lv_if_ne (tgt := 24) F.1 F.2.1 dX8_isRolling_17 (by decide) (fun c2 => ?_) (fun c2 => ?_)
    · refine lv_iconst (v := 0) F.1 F.2.1 dX8_isRolling_24 (by decide) ?_
      exact w_zret F hr hlocks hP hS (Or.inl rfl) dX8_isRolling_25 ⟨rfl, (if_neg (fun q => c2 q.2)).symm⟩
    · refine lv_iconst (v := 1) F.1 F.2.1 dX8_isRolling_20 (by decide) ?_
      refine lv_goto (tgt := 25) F.1 F.2.1 dX8_isRolling_21 (by decide) ?_
      exact w_zret F hr hlocks hP hS (Or.inr rfl) dX8_isRolling_25 ⟨rfl, (if_pos ⟨c1, c2⟩).symm⟩
