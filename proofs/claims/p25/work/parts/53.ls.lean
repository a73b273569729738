/-! p25: the class at place 0, the law's array at place 170: the class's contracts over that world -/
theorem met_post {l : Launch} {y : MethodName} {ws : List Cond} {rm : Room} {Pc : Array Value → State → Prop} {Qc Qd : Array Value → State → Outcome → State → Prop} {mc ms : Nat} {free : Addr → Prop} (h : Met l y ws rm Pc Qc mc ms free) (hq : ∀ a s o t, Qc a s o t → Qd a s o t) : Met l y ws rm Pc Qd mc ms free := by
  intro p e ha hc hk s m args below hf hap hP hK
  obtain ⟨n, o, h1, h2, h3, h4, h5⟩ := h p e ha hc hk s m args below hf hap hP hK
  exact ⟨n, o, h1, h2, h3, hq _ _ _ _ h4, h5⟩
theorem wq_imp {D : va_G} {ad : Nat → Nat} {N : Nat} {post post2 : Int32 → (Nat → va_E) → Prop} (h : ∀ r C', post r C' → post2 r C') : ∀ (a : Array Value) (s : State) (o : Outcome) (t : State), wQi D ad N post a s o t → wQi D ad N post2 a s o t := by
  intro a s o t q
  obtain ⟨⟨r, u, h1, h2, h3⟩, h4⟩ := q
  exact ⟨⟨r, u, h1, h _ _ h2, h3⟩, h4⟩
theorem clsA_same {Y : Nat → ClassId} {ad : Nat → Nat} {C C' : Nat → va_E} {o : Nat} {f : Nat → Int32} {hs : Nat → Nat → Int32} {kn : Nat} {sl : Nat → Nat → Int32} {sv pd : Nat → Int32} {n : Nat} (h : clsA Y ad C o f hs kn sl sv pd n) (hq : ∀ j, o ≤ j → j < o + 170 → C' j = C j) : clsA Y ad C' o f hs kn sl sv pd n := by
  obtain ⟨FF, GG, nx, fl, hc, rest⟩ := h
  exact ⟨FF, GG, nx, fl, cls_same hc hq, rest⟩
theorem clsA_at {Y : Nat → ClassId} {ad : Nat → Nat} {C : Nat → va_E} {o : Nat} {f : Nat → Int32} {hs : Nat → Nat → Int32} {kn : Nat} {sl : Nat → Nat → Int32} {sv pd : Nat → Int32} {n : Nat} (h : clsA Y ad C o f hs kn sl sv pd n) : C o = .inr (7, [.ref (ad (o + 1)), .ref (ad (o + 19)), .ref (ad (o + 129)), .ref (ad (o + 166)), .ref (ad (o + 167)), .ref (ad (o + 169))]) := by
  obtain ⟨FF, GG, nx, fl, hc, rest⟩ := h
  exact hc.1
theorem clsA_kn {Y : Nat → ClassId} {ad : Nat → Nat} {C : Nat → va_E} {o : Nat} {f : Nat → Int32} {hs : Nat → Nat → Int32} {kn : Nat} {sl : Nat → Nat → Int32} {sv pd : Nat → Int32} {n : Nat} (h : clsA Y ad C o f hs kn sl sv pd n) : kn ≤ 6 := by
  obtain ⟨FF, GG, nx, fl, hc, h1, h2, rest⟩ := h
  exact h2
def z01 (x : Int32) : Prop := x = 0 ∨ x = 1
/-- the class at place 0: now f, slots sl, what is saved sv -/
def kLS (Y : Nat → ClassId) (ad : Nat → Nat) (C : Nat → va_E) (f : Nat → Int32) (sl : Nat → Nat → Int32) (sv : Nat → Int32) : Prop :=
  ∃ (hs : Nat → Nat → Int32) (kn : Nat) (pd : Nat → Int32) (n : Nat), clsA Y ad C 0 f hs kn sl sv pd n ∧ (∀ i, i < kn → z01 (hs i 5)) ∧ (∀ i, i < 2 → z01 (sl i 5)) ∧ z01 (f 5)
section LSS
variable {Y : Nat → ClassId} {ad : Nat → Nat} {C C' : Nat → va_E} {f f' : Nat → Int32} {sl sl' : Nat → Nat → Int32} {sv sv' : Nat → Int32} {hs hs' : Nat → Nat → Int32} {kn kn' : Nat} {pd : Nat → Int32} {n : Nat}
theorem ls_at (h : kLS Y ad C f sl sv) : C 0 = .inr (7, [.ref (ad (0 + 1)), .ref (ad (0 + 19)), .ref (ad (0 + 129)), .ref (ad (0 + 166)), .ref (ad (0 + 167)), .ref (ad (0 + 169))]) := by
  obtain ⟨hs, kn, pd, n, hA, -⟩ := h
  exact clsA_at hA
theorem ls_same (h : kLS Y ad C f sl sv) (hq : ∀ j, j < 170 → C' j = C j) : kLS Y ad C' f sl sv := by
  obtain ⟨hs, kn, pd, n, hA, r⟩ := h
  exact ⟨hs, kn, pd, n, clsA_same hA (fun j _ b => hq j (by omega)), r⟩
theorem ls_rec (hA : clsA Y ad C 0 f hs kn sl sv pd n) (h1 : ∀ i, i < kn → z01 (hs i 5)) (h2 : ∀ i, i < 2 → z01 (sl i 5)) (h3 : z01 (f 5)) (h4 : z01 (f' 5)) (hA2 : clsA Y ad C' 0 f' (H_rec f hs kn) (K_rec kn) sl sv pd n) : kLS Y ad C' f' sl sv := by
  refine ⟨_, _, _, _, hA2, fun i hi => ?_, h2, h4⟩
  have hk := clsA_kn hA
  unfold K_rec at hi
  unfold H_rec
  by_cases a : kn = 6
  · rw [if_pos a] at hi
    rw [if_pos a]
    by_cases b : i < 5
    · rw [if_pos b]; exact h1 _ (by omega)
    · rw [if_neg b]; exact h3
  · rw [if_neg a] at hi
    rw [if_neg a]
    by_cases b : i = kn
    · rw [if_pos b]; exact h3
    · rw [if_neg b]; exact h1 _ (by omega)
end LSS
theorem ree_0 {sv : Nat → Int32} {k : Nat} (hk : k < 2) (hv : ¬ sv k = 0) : T_ree sv (nI k) = 0 := by
  unfold T_ree
  rw [if_pos ⟨nI_le (Nat.zero_le k) (by omega), nI_lt (b := 2) hk (by decide)⟩, nI_clamp (by omega), if_neg hv]
theorem pu_00 {f : Nat → Int32} (h5 : f 5 = 1) (h11 : f 11 = 0) : T_pu f = 0 := if_pos ⟨h5, h11⟩
theorem te_00 {x : Int32} {f : Nat → Int32} (hx : x = 0 ∨ x = 1) (h5 : f 5 = 1) (h11 : f 11 = 0) : T_te x f = 0 := by
  unfold T_te
  rw [if_pos hx, if_pos ⟨h5, h11⟩]
theorem re_01 {f : Nat → Int32} (h5 : f 5 = 1) (h11 : f 11 = 0) : T_re 1 f = 0 := by
  unfold T_re
  rw [if_pos (by decide), if_pos ⟨h5, h11⟩]
theorem re_no {f : Nat → Int32} (h : ¬ (f 5 = 1 ∧ f 11 = 0)) : T_re 1 f = -5 := by
  unfold T_re
  rw [if_pos (by decide), if_neg h]
theorem pu_no {f : Nat → Int32} (h : ¬ (f 5 = 1 ∧ f 11 = 0)) : T_pu f = -5 := if_neg h
theorem te_no {x : Int32} {f : Nat → Int32} (hx : x = 0 ∨ x = 1) (h : ¬ (f 5 = 1 ∧ f 11 = 0)) : T_te x f = -5 := by
  unfold T_te
  rw [if_pos hx, if_neg h]
/-- the numbers that don't hang on pad and history -/
def T_cn (f : Nat → Int32) (x : Int32) : Int32 := if 10 ≤ x then f (x - 10).toNatClampNeg else T_num f x
theorem cnt_cn {f : Nat → Int32} {kn n : Nat} {x : Int32} (h : 0 ≤ x ∧ x ≤ 13) : T_count f kn n x = T_cn f x := by
  have a := Int32.le_iff_toInt_le.mp h.1
  have b := Int32.le_iff_toInt_le.mp h.2
  have t13 : (13 : Int32).toInt = 13 := rfl
  have t0 : (0 : Int32).toInt = 0 := rfl
  unfold T_count T_cn
  rw [if_pos ⟨h.1, Int32.le_iff_toInt_le.mpr (by show x.toInt ≤ 15; omega)⟩, if_neg (fun q => by rw [q] at b; exact absurd b (by decide)), if_neg (fun q => by rw [q] at b; exact absurd b (by decide))]
theorem k_set (l : Launch) (D : va_G) (Y : Nat → ClassId) (ad : Nat → Nat) (N : Nat) (hI : wI ad N) (hN : 171 ≤ N) (C : Nat → va_E) {f : Nat → Int32} {sl : Nat → Nat → Int32} {sv : Nat → Int32} (hL : kLS Y ad C f sl sv) (k : Nat) (v : Int32) (hk : k < 4) (hc : T_can (nI k) v) {B : Int} (hok : okRow B f) (hB : B + 2000 ≤ 900000000) : Met l yX7_set (wm yX7_set cX7_set 3 (some .int)) { frames := 4, cells := 0, slots := 0, locals := 88 } (wPc D Y ad N [.ref (ad 0), .int (nI k), .int v] C) (wQi D ad N (fun r C' => r = f k ∧ kLS Y ad C' (upd f k v) sl sv ∧ C' 170 = C 170)) 0 0 (wA ad N) := by
  obtain ⟨hs, kn, pd, n, hA, z1, z2, z3⟩ := id hL
  exact met_post (c_X7_set l D Y ad N hI C 0 (by omega) f hs kn sl sv pd n hA (nI k) v B hok hB) (wq_imp (fun r C' q => by rw [nI_clamp (show k < 2 ^ 31 by omega)] at q; obtain ⟨a, b, c⟩ := q.1 (if_pos hc); exact ⟨a, ls_rec hA z1 z2 z3 (by rw [upd_n (by omega)]; exact z3) b, c 170 (by omega)⟩))
theorem k_set_e (l : Launch) (D : va_G) (Y : Nat → ClassId) (ad : Nat → Nat) (N : Nat) (hI : wI ad N) (hN : 171 ≤ N) (C : Nat → va_E) {f : Nat → Int32} {sl : Nat → Nat → Int32} {sv : Nat → Int32} (hL : kLS Y ad C f sl sv) (x v : Int32) (hc : ¬ T_can x v) {B : Int} (hok : okRow B f) (hB : B + 2000 ≤ 900000000) : Met l yX7_set (wm yX7_set cX7_set 3 (some .int)) { frames := 4, cells := 0, slots := 0, locals := 88 } (wPc D Y ad N [.ref (ad 0), .int x, .int v] C) (wQi D ad N (fun r C' => C' = C ∧ r = -2)) 0 0 (wA ad N) := by
  obtain ⟨hs, kn, pd, n, hA, z1, z2, z3⟩ := id hL
  exact met_post (c_X7_set l D Y ad N hI C 0 (by omega) f hs kn sl sv pd n hA x v B hok hB) (wq_imp (fun r C' q => by obtain ⟨a, b⟩ := q.2 (by rw [if_neg hc]; decide); exact ⟨b, a.trans (if_neg hc)⟩))
theorem k_part (l : Launch) (D : va_G) (Y : Nat → ClassId) (ad : Nat → Nat) (N : Nat) (hI : wI ad N) (hN : 171 ≤ N) (C : Nat → va_E) {f : Nat → Int32} {sl : Nat → Nat → Int32} {sv : Nat → Int32} (hL : kLS Y ad C f sl sv) (x kd v : Int32) (he : T_pe x kd v f = 0) {B : Int} (hok : okRow B f) (hB : B + 2000 ≤ 900000000) : Met l yX7_part (wm yX7_part cX7_part 5 (some .int)) { frames := 4, cells := 0, slots := 0, locals := 88 } (wPc D Y ad N [.ref (ad 0), .int x, .int kd, .int v] C) (wQi D ad N (fun r C' => r = T_insert x.toNatClampNeg kd v f 4 ∧ kLS Y ad C' (T_insert x.toNatClampNeg kd v f) sl sv ∧ C' 170 = C 170)) 0 0 (wA ad N) := by
  obtain ⟨hs, kn, pd, n, hA, z1, z2, z3⟩ := id hL
  exact met_post (c_X7_part l D Y ad N hI C 0 (by omega) f hs kn sl sv pd n hA x kd v B hok hB) (wq_imp (fun r C' q => by obtain ⟨a, b, c⟩ := q.1 he; exact ⟨a, ls_rec hA z1 z2 z3 (Or.inl rfl) b, c 170 (by omega)⟩))
theorem k_part_e (l : Launch) (D : va_G) (Y : Nat → ClassId) (ad : Nat → Nat) (N : Nat) (hI : wI ad N) (hN : 171 ≤ N) (C : Nat → va_E) {f : Nat → Int32} {sl : Nat → Nat → Int32} {sv : Nat → Int32} (hL : kLS Y ad C f sl sv) (x kd v w : Int32) (he : T_pe x kd v f = w) (hw : ¬ w = 0) {B : Int} (hok : okRow B f) (hB : B + 2000 ≤ 900000000) : Met l yX7_part (wm yX7_part cX7_part 5 (some .int)) { frames := 4, cells := 0, slots := 0, locals := 88 } (wPc D Y ad N [.ref (ad 0), .int x, .int kd, .int v] C) (wQi D ad N (fun r C' => C' = C ∧ r = w)) 0 0 (wA ad N) := by
  obtain ⟨hs, kn, pd, n, hA, z1, z2, z3⟩ := id hL
  exact met_post (c_X7_part l D Y ad N hI C 0 (by omega) f hs kn sl sv pd n hA x kd v B hok hB) (wq_imp (fun r C' q => by obtain ⟨a, b⟩ := q.2 (by rw [he]; exact hw); exact ⟨b, a.trans he⟩))
theorem k_takeAway (l : Launch) (D : va_G) (Y : Nat → ClassId) (ad : Nat → Nat) (N : Nat) (hI : wI ad N) (hN : 171 ≤ N) (C : Nat → va_E) {f : Nat → Int32} {sl : Nat → Nat → Int32} {sv : Nat → Int32} (hL : kLS Y ad C f sl sv) (x : Int32) (hx : 0 ≤ x ∧ x < f 4 ∧ x < 20) {B : Int} (hok : okRow B f) (hB : B + 2000 ≤ 900000000) : Met l yX7_takeAway (wm yX7_takeAway cX7_takeAway 2 (some .int)) { frames := 4, cells := 0, slots := 0, locals := 88 } (wPc D Y ad N [.ref (ad 0), .int x] C) (wQi D ad N (fun r C' => r = T_remove x.toNatClampNeg f 4 ∧ kLS Y ad C' (T_remove x.toNatClampNeg f) sl sv ∧ C' 170 = C 170)) 0 0 (wA ad N) := by
  obtain ⟨hs, kn, pd, n, hA, z1, z2, z3⟩ := id hL
  exact met_post (c_X7_takeAway l D Y ad N hI C 0 (by omega) f hs kn sl sv pd n hA x B hok hB) (wq_imp (fun r C' q => by obtain ⟨a, b, c⟩ := q.1 (if_pos hx); exact ⟨a, ls_rec hA z1 z2 z3 (Or.inl rfl) b, c 170 (by omega)⟩))
theorem k_takeAway_e (l : Launch) (D : va_G) (Y : Nat → ClassId) (ad : Nat → Nat) (N : Nat) (hI : wI ad N) (hN : 171 ≤ N) (C : Nat → va_E) {f : Nat → Int32} {sl : Nat → Nat → Int32} {sv : Nat → Int32} (hL : kLS Y ad C f sl sv) (x : Int32) (hx : ¬ (0 ≤ x ∧ x < f 4 ∧ x < 20)) {B : Int} (hok : okRow B f) (hB : B + 2000 ≤ 900000000) : Met l yX7_takeAway (wm yX7_takeAway cX7_takeAway 2 (some .int)) { frames := 4, cells := 0, slots := 0, locals := 88 } (wPc D Y ad N [.ref (ad 0), .int x] C) (wQi D ad N (fun r C' => C' = C ∧ r = -1)) 0 0 (wA ad N) := by
  obtain ⟨hs, kn, pd, n, hA, z1, z2, z3⟩ := id hL
  exact met_post (c_X7_takeAway l D Y ad N hI C 0 (by omega) f hs kn sl sv pd n hA x B hok hB) (wq_imp (fun r C' q => by obtain ⟨a, b⟩ := q.2 (by rw [if_neg hx]; decide); exact ⟨b, a.trans (if_neg hx)⟩))
theorem k_hoop (l : Launch) (D : va_G) (Y : Nat → ClassId) (ad : Nat → Nat) (N : Nat) (hI : wI ad N) (hN : 171 ≤ N) (C : Nat → va_E) {f : Nat → Int32} {sl : Nat → Nat → Int32} {sv : Nat → Int32} (hL : kLS Y ad C f sl sv) (x : Int32) (hx : 1 ≤ x ∧ x ≤ 60) {B : Int} (hok : okRow B f) (hB : B + 2000 ≤ 900000000) : Met l yX7_hoop (wm yX7_hoop cX7_hoop 2 (some .int)) { frames := 4, cells := 0, slots := 0, locals := 88 } (wPc D Y ad N [.ref (ad 0), .int x] C) (wQi D ad N (fun r C' => r = f 14 + 1 ∧ kLS Y ad C' (T_run x f) sl sv ∧ C' 170 = C 170)) 0 0 (wA ad N) := by
  obtain ⟨hs, kn, pd, n, hA, z1, z2, z3⟩ := id hL
  exact met_post (c_X7_hoop l D Y ad N hI C 0 (by omega) f hs kn sl sv pd n hA x B hok hB) (wq_imp (fun r C' q => by obtain ⟨a, b, c⟩ := q.1 (if_pos hx); exact ⟨a, ls_rec hA z1 z2 z3 (Or.inr rfl) b, c 170 (by omega)⟩))
theorem k_hoop_e (l : Launch) (D : va_G) (Y : Nat → ClassId) (ad : Nat → Nat) (N : Nat) (hI : wI ad N) (hN : 171 ≤ N) (C : Nat → va_E) {f : Nat → Int32} {sl : Nat → Nat → Int32} {sv : Nat → Int32} (hL : kLS Y ad C f sl sv) (x : Int32) (hx : ¬ (1 ≤ x ∧ x ≤ 60)) {B : Int} (hok : okRow B f) (hB : B + 2000 ≤ 900000000) : Met l yX7_hoop (wm yX7_hoop cX7_hoop 2 (some .int)) { frames := 4, cells := 0, slots := 0, locals := 88 } (wPc D Y ad N [.ref (ad 0), .int x] C) (wQi D ad N (fun r C' => C' = C ∧ r = -2)) 0 0 (wA ad N) := by
  obtain ⟨hs, kn, pd, n, hA, z1, z2, z3⟩ := id hL
  exact met_post (c_X7_hoop l D Y ad N hI C 0 (by omega) f hs kn sl sv pd n hA x B hok hB) (wq_imp (fun r C' q => by obtain ⟨a, b⟩ := q.2 (by rw [if_neg hx]; decide); exact ⟨b, a.trans (if_neg hx)⟩))
theorem k_roll (l : Launch) (D : va_G) (Y : Nat → ClassId) (ad : Nat → Nat) (N : Nat) (hI : wI ad N) (hN : 171 ≤ N) (C : Nat → va_E) {f : Nat → Int32} {sl : Nat → Nat → Int32} {sv : Nat → Int32} (hL : kLS Y ad C f sl sv) (h5 : f 5 = 1) (h11 : f 11 = 0) {B : Int} (hok : okRow B f) (hB : B + 2000 ≤ 900000000) (hB0 : 0 ≤ B) : Met l yX7_roll (wm yX7_roll cX7_roll 3 (some .int)) { frames := 6, cells := 0, slots := 0, locals := 129 } (wPc D Y ad N [.ref (ad 0), .int 1] C) (wQi D ad N (fun r C' => r = T_rolled 1 f 0 11 ∧ kLS Y ad C' (T_rolled 1 f 0) sl sv ∧ C' 170 = C 170)) 0 0 (wA ad N) := by
  obtain ⟨hs, kn, pd, n, hA, z1, z2, z3⟩ := id hL
  exact met_post (c_X7_roll l D Y ad N hI C 0 (by omega) f hs kn sl sv pd n hA 1 B hok hB) (wq_imp (fun r C' q => by obtain ⟨a, b, c⟩ := q.1 (re_01 h5 h11); exact ⟨a, ls_rec hA z1 z2 z3 (okRow_roll (g := 0) 1 (by omega) hok h5 h11).2.1 b, c 170 (by omega)⟩))
theorem k_roll_n (l : Launch) (D : va_G) (Y : Nat → ClassId) (ad : Nat → Nat) (N : Nat) (hI : wI ad N) (hN : 171 ≤ N) (C : Nat → va_E) {f : Nat → Int32} {sl : Nat → Nat → Int32} {sv : Nat → Int32} (hL : kLS Y ad C f sl sv) (hn : ¬ (f 5 = 1 ∧ f 11 = 0)) {B : Int} (hok : okRow B f) (hB : B + 2000 ≤ 900000000) : Met l yX7_roll (wm yX7_roll cX7_roll 3 (some .int)) { frames := 6, cells := 0, slots := 0, locals := 129 } (wPc D Y ad N [.ref (ad 0), .int 1] C) (wQi D ad N (fun r C' => C' = C ∧ r = -5)) 0 0 (wA ad N) := by
  obtain ⟨hs, kn, pd, n, hA, z1, z2, z3⟩ := id hL
  exact met_post (c_X7_roll l D Y ad N hI C 0 (by omega) f hs kn sl sv pd n hA 1 B hok hB) (wq_imp (fun r C' q => by obtain ⟨a, b⟩ := q.2 (by rw [re_no hn]; decide); exact ⟨b, a.trans (re_no hn)⟩))
theorem k_roll_e (l : Launch) (D : va_G) (Y : Nat → ClassId) (ad : Nat → Nat) (N : Nat) (hI : wI ad N) (hN : 171 ≤ N) (C : Nat → va_E) {f : Nat → Int32} {sl : Nat → Nat → Int32} {sv : Nat → Int32} (hL : kLS Y ad C f sl sv) {B : Int} (hok : okRow B f) (hB : B + 2000 ≤ 900000000) : Met l yX7_roll (wm yX7_roll cX7_roll 3 (some .int)) { frames := 6, cells := 0, slots := 0, locals := 129 } (wPc D Y ad N [.ref (ad 0), .int 21] C) (wQi D ad N (fun r C' => C' = C ∧ r = -2)) 0 0 (wA ad N) := by
  obtain ⟨hs, kn, pd, n, hA, z1, z2, z3⟩ := id hL
  exact met_post (c_X7_roll l D Y ad N hI C 0 (by omega) f hs kn sl sv pd n hA 21 B hok hB) (wq_imp (fun r C' q => by obtain ⟨a, b⟩ := q.2 (by show ¬ (if (1 : Int32) ≤ 21 ∧ (21 : Int32) ≤ 20 then (if f 5 = 1 ∧ f 11 = 0 then (0 : Int32) else -5) else -2) = 0; rw [if_neg (by decide)]; decide); exact ⟨b, a.trans (if_neg (by decide))⟩))
theorem k_tap (l : Launch) (D : va_G) (Y : Nat → ClassId) (ad : Nat → Nat) (N : Nat) (hI : wI ad N) (hN : 171 ≤ N) (C : Nat → va_E) {f : Nat → Int32} {sl : Nat → Nat → Int32} {sv : Nat → Int32} (hL : kLS Y ad C f sl sv) (x : Int32) (hx : x = 0 ∨ x = 1) (h5 : f 5 = 1) (h11 : f 11 = 0) {B : Int} (hok : okRow B f) (hB : B + 2000 ≤ 900000000) : Met l yX7_tap (wm yX7_tap cX7_tap 3 (some .int)) { frames := 4, cells := 0, slots := 0, locals := 88 } (wPc D Y ad N [.ref (ad 0), .int x] C) (wQi D ad N (fun r C' => r = T_tapp x f 8 + 500 ∧ kLS Y ad C' (T_tapp x f) sl sv ∧ C' 170 = C 170)) 0 0 (wA ad N) := by
  obtain ⟨hs, kn, pd, n, hA, z1, z2, z3⟩ := id hL
  exact met_post (c_X7_tap l D Y ad N hI C 0 (by omega) f hs kn sl sv pd n hA x B hok hB) (wq_imp (fun r C' q => by obtain ⟨a, b, c⟩ := q.1 (te_00 hx h5 h11); exact ⟨a, ls_rec hA z1 z2 z3 (by rw [show T_tapp x f 5 = f 5 from tapp_out (by decide) (by decide)]; exact z3) b, c 170 (by omega)⟩))
theorem k_tap_n (l : Launch) (D : va_G) (Y : Nat → ClassId) (ad : Nat → Nat) (N : Nat) (hI : wI ad N) (hN : 171 ≤ N) (C : Nat → va_E) {f : Nat → Int32} {sl : Nat → Nat → Int32} {sv : Nat → Int32} (hL : kLS Y ad C f sl sv) (x : Int32) (hx : x = 0 ∨ x = 1) (hn : ¬ (f 5 = 1 ∧ f 11 = 0)) {B : Int} (hok : okRow B f) (hB : B + 2000 ≤ 900000000) : Met l yX7_tap (wm yX7_tap cX7_tap 3 (some .int)) { frames := 4, cells := 0, slots := 0, locals := 88 } (wPc D Y ad N [.ref (ad 0), .int x] C) (wQi D ad N (fun r C' => C' = C ∧ r = -5)) 0 0 (wA ad N) := by
  obtain ⟨hs, kn, pd, n, hA, z1, z2, z3⟩ := id hL
  exact met_post (c_X7_tap l D Y ad N hI C 0 (by omega) f hs kn sl sv pd n hA x B hok hB) (wq_imp (fun r C' q => by obtain ⟨a, b⟩ := q.2 (by rw [te_no hx hn]; decide); exact ⟨b, a.trans (te_no hx hn)⟩))
theorem k_tap_e (l : Launch) (D : va_G) (Y : Nat → ClassId) (ad : Nat → Nat) (N : Nat) (hI : wI ad N) (hN : 171 ≤ N) (C : Nat → va_E) {f : Nat → Int32} {sl : Nat → Nat → Int32} {sv : Nat → Int32} (hL : kLS Y ad C f sl sv) {B : Int} (hok : okRow B f) (hB : B + 2000 ≤ 900000000) : Met l yX7_tap (wm yX7_tap cX7_tap 3 (some .int)) { frames := 4, cells := 0, slots := 0, locals := 88 } (wPc D Y ad N [.ref (ad 0), .int 2] C) (wQi D ad N (fun r C' => C' = C ∧ r = -2)) 0 0 (wA ad N) := by
  obtain ⟨hs, kn, pd, n, hA, z1, z2, z3⟩ := id hL
  exact met_post (c_X7_tap l D Y ad N hI C 0 (by omega) f hs kn sl sv pd n hA 2 B hok hB) (wq_imp (fun r C' q => by obtain ⟨a, b⟩ := q.2 (by show ¬ (if (2 : Int32) = 0 ∨ (2 : Int32) = 1 then (if f 5 = 1 ∧ f 11 = 0 then (0 : Int32) else -5) else -2) = 0; rw [if_neg (by decide)]; decide); exact ⟨b, a.trans (if_neg (by decide))⟩))
theorem k_push (l : Launch) (D : va_G) (Y : Nat → ClassId) (ad : Nat → Nat) (N : Nat) (hI : wI ad N) (hN : 171 ≤ N) (C : Nat → va_E) {f : Nat → Int32} {sl : Nat → Nat → Int32} {sv : Nat → Int32} (hL : kLS Y ad C f sl sv) (h5 : f 5 = 1) (h11 : f 11 = 0) {B : Int} (hok : okRow B f) (hB : B + 2000 ≤ 900000000) : Met l yX7_push (wm yX7_push cX7_push 2 (some .int)) { frames := 4, cells := 0, slots := 0, locals := 88 } (wPc D Y ad N [.ref (ad 0)] C) (wQi D ad N (fun r C' => r = T_push f 7 ∧ kLS Y ad C' (T_push f) sl sv ∧ C' 170 = C 170)) 0 0 (wA ad N) := by
  obtain ⟨hs, kn, pd, n, hA, z1, z2, z3⟩ := id hL
  exact met_post (c_X7_push l D Y ad N hI C 0 (by omega) f hs kn sl sv pd n hA B hok hB) (wq_imp (fun r C' q => by obtain ⟨a, b, c⟩ := q.1 (pu_00 h5 h11); exact ⟨a, ls_rec hA z1 z2 z3 (by rw [show T_push f 5 = f 5 from push_out (by decide)]; exact z3) b, c 170 (by omega)⟩))
theorem k_push_n (l : Launch) (D : va_G) (Y : Nat → ClassId) (ad : Nat → Nat) (N : Nat) (hI : wI ad N) (hN : 171 ≤ N) (C : Nat → va_E) {f : Nat → Int32} {sl : Nat → Nat → Int32} {sv : Nat → Int32} (hL : kLS Y ad C f sl sv) (hn : ¬ (f 5 = 1 ∧ f 11 = 0)) {B : Int} (hok : okRow B f) (hB : B + 2000 ≤ 900000000) : Met l yX7_push (wm yX7_push cX7_push 2 (some .int)) { frames := 4, cells := 0, slots := 0, locals := 88 } (wPc D Y ad N [.ref (ad 0)] C) (wQi D ad N (fun r C' => C' = C ∧ r = -5)) 0 0 (wA ad N) := by
  obtain ⟨hs, kn, pd, n, hA, z1, z2, z3⟩ := id hL
  exact met_post (c_X7_push l D Y ad N hI C 0 (by omega) f hs kn sl sv pd n hA B hok hB) (wq_imp (fun r C' q => by obtain ⟨a, b⟩ := q.2 (by rw [pu_no hn]; decide); exact ⟨b, a.trans (pu_no hn)⟩))
theorem k_of (l : Launch) (D : va_G) (Y : Nat → ClassId) (ad : Nat → Nat) (N : Nat) (hI : wI ad N) (hN : 171 ≤ N) (C : Nat → va_E) {f : Nat → Int32} {sl : Nat → Nat → Int32} {sv : Nat → Int32} (hL : kLS Y ad C f sl sv) (x y : Int32) : Met l yX7_of (wm yX7_of cX7_of 3 (some .int)) { frames := 2, cells := 0, slots := 0, locals := 43 } (wPc D Y ad N [.ref (ad 0), .int x, .int y] C) (wQi D ad N (fun r C' => C' = C ∧ r = T_of f x y)) 0 0 (wA ad N) := by
  obtain ⟨hs, kn, pd, n, hA, z1, z2, z3⟩ := id hL
  exact met_post (c_X7_of l D Y ad N hI C 0 (by omega) f hs kn sl sv pd n hA x y) (wq_imp (fun r C' q => q))
theorem k_run (l : Launch) (D : va_G) (Y : Nat → ClassId) (ad : Nat → Nat) (N : Nat) (hI : wI ad N) (hN : 171 ≤ N) (C : Nat → va_E) {f : Nat → Int32} {sl : Nat → Nat → Int32} {sv : Nat → Int32} (hL : kLS Y ad C f sl sv) (x y : Int32) : Met l yX7_run (wm yX7_run cX7_run 3 (some .int)) { frames := 2, cells := 0, slots := 0, locals := 43 } (wPc D Y ad N [.ref (ad 0), .int x, .int y] C) (wQi D ad N (fun r C' => C' = C ∧ r = T_runs f x y)) 0 0 (wA ad N) := by
  obtain ⟨hs, kn, pd, n, hA, z1, z2, z3⟩ := id hL
  exact met_post (c_X7_run l D Y ad N hI C 0 (by omega) f hs kn sl sv pd n hA x y) (wq_imp (fun r C' q => q))
theorem k_ofHoop (l : Launch) (D : va_G) (Y : Nat → ClassId) (ad : Nat → Nat) (N : Nat) (hI : wI ad N) (hN : 171 ≤ N) (C : Nat → va_E) {f : Nat → Int32} {sl : Nat → Nat → Int32} {sv : Nat → Int32} (hL : kLS Y ad C f sl sv) (x : Int32) : Met l yX7_ofHoop (wm yX7_ofHoop cX7_ofHoop 2 (some .int)) { frames := 1, cells := 0, slots := 0, locals := 21 } (wPc D Y ad N [.ref (ad 0), .int x] C) (wQi D ad N (fun r C' => C' = C ∧ r = T_ofHoop f x)) 0 0 (wA ad N) := by
  obtain ⟨hs, kn, pd, n, hA, z1, z2, z3⟩ := id hL
  exact met_post (c_X7_ofHoop l D Y ad N hI C 0 (by omega) f hs kn sl sv pd n hA x) (wq_imp (fun r C' q => q))
theorem k_count (l : Launch) (D : va_G) (Y : Nat → ClassId) (ad : Nat → Nat) (N : Nat) (hI : wI ad N) (hN : 171 ≤ N) (C : Nat → va_E) {f : Nat → Int32} {sl : Nat → Nat → Int32} {sv : Nat → Int32} (hL : kLS Y ad C f sl sv) (x : Int32) (hx : 0 ≤ x ∧ x ≤ 13) {B : Int} (hok : okRow B f) : Met l yX7_count (wm yX7_count cX7_count 2 (some .int)) { frames := 4, cells := 0, slots := 0, locals := 87 } (wPc D Y ad N [.ref (ad 0), .int x] C) (wQi D ad N (fun r C' => C' = C ∧ r = T_cn f x)) 0 0 (wA ad N) := by
  obtain ⟨hs, kn, pd, n, hA, z1, z2, z3⟩ := id hL
  exact met_post (c_X7_count l D Y ad N hI C 0 (by omega) f hs kn sl sv pd n hA B x hok) (wq_imp (fun r C' q => ⟨q.1, q.2.trans (cnt_cn hx)⟩))
theorem k_count_e (l : Launch) (D : va_G) (Y : Nat → ClassId) (ad : Nat → Nat) (N : Nat) (hI : wI ad N) (hN : 171 ≤ N) (C : Nat → va_E) {f : Nat → Int32} {sl : Nat → Nat → Int32} {sv : Nat → Int32} (hL : kLS Y ad C f sl sv) {B : Int} (hok : okRow B f) : Met l yX7_count (wm yX7_count cX7_count 2 (some .int)) { frames := 4, cells := 0, slots := 0, locals := 87 } (wPc D Y ad N [.ref (ad 0), .int 16] C) (wQi D ad N (fun r C' => C' = C ∧ r = -2)) 0 0 (wA ad N) := by
  obtain ⟨hs, kn, pd, n, hA, z1, z2, z3⟩ := id hL
  exact met_post (c_X7_count l D Y ad N hI C 0 (by omega) f hs kn sl sv pd n hA B 16 hok) (wq_imp (fun r C' q => ⟨q.1, q.2.trans (if_neg (by decide))⟩))
theorem k_ifRolled (l : Launch) (D : va_G) (Y : Nat → ClassId) (ad : Nat → Nat) (N : Nat) (hI : wI ad N) (hN : 171 ≤ N) (C : Nat → va_E) {f : Nat → Int32} {sl : Nat → Nat → Int32} {sv : Nat → Int32} (hL : kLS Y ad C f sl sv) (x : Int32) {B : Int} (hok : okRow B f) (hB : B + 2000 ≤ 900000000) (hB0 : 0 ≤ B) : Met l yX7_ifRolled (wm yX7_ifRolled cX7_ifRolled 2 (some .int)) { frames := 5, cells := 0, slots := 0, locals := 108 } (wPc D Y ad N [.ref (ad 0), .int x] C) (wQi D ad N (fun r C' => r = T_ifr f x ∧ kLS Y ad C' f sl sv ∧ C' 170 = C 170)) 0 0 (wA ad N) := by
  obtain ⟨hs, kn, pd, n, hA, z1, z2, z3⟩ := id hL
  exact met_post (c_X7_ifRolled l D Y ad N hI C 0 (by omega) f hs kn sl sv pd n hA x B hok hB hB0) (wq_imp (fun r C' q => ⟨q.1, ⟨hs, kn, pd, n, q.2.1, z1, z2, z3⟩, q.2.2 170 (by omega)⟩))
theorem k_widest (l : Launch) (D : va_G) (Y : Nat → ClassId) (ad : Nat → Nat) (N : Nat) (hI : wI ad N) (hN : 171 ≤ N) (C : Nat → va_E) {f : Nat → Int32} {sl : Nat → Nat → Int32} {sv : Nat → Int32} (hL : kLS Y ad C f sl sv) {B : Int} (hok : okRow B f) (hB : B + 2000 ≤ 900000000) (hB0 : 0 ≤ B) : Met l yX7_widest (wm yX7_widest cX7_widest 2 (some .int)) { frames := 5, cells := 0, slots := 0, locals := 108 } (wPc D Y ad N [.ref (ad 0)] C) (wQi D ad N (fun r C' => r = T_wide f 60 ∧ kLS Y ad C' f sl sv ∧ C' 170 = C 170)) 0 0 (wA ad N) := by
  obtain ⟨hs, kn, pd, n, hA, z1, z2, z3⟩ := id hL
  exact met_post (c_X7_widest l D Y ad N hI C 0 (by omega) f hs kn sl sv pd n hA  B hok hB hB0) (wq_imp (fun r C' q => ⟨q.1, ⟨hs, kn, pd, n, q.2.1, z1, z2, z3⟩, q.2.2 170 (by omega)⟩))
theorem k_saves (l : Launch) (D : va_G) (Y : Nat → ClassId) (ad : Nat → Nat) (N : Nat) (hI : wI ad N) (hN : 171 ≤ N) (C : Nat → va_E) {f : Nat → Int32} {sl : Nat → Nat → Int32} {sv : Nat → Int32} (hL : kLS Y ad C f sl sv) (x : Int32) {B : Int} (hok : okRow B f) (hB : B + 2000 ≤ 900000000) (hB0 : 0 ≤ B) : Met l yX7_saves (wm yX7_saves cX7_saves 4 (some .int)) { frames := 6, cells := 0, slots := 0, locals := 131 } (wPc D Y ad N [.ref (ad 0), .int x] C) (wQi D ad N (fun r C' => r = T_svs f x ∧ kLS Y ad C' f sl sv ∧ C' 170 = C 170)) 0 0 (wA ad N) := by
  obtain ⟨hs, kn, pd, n, hA, z1, z2, z3⟩ := id hL
  exact met_post (c_X7_saves l D Y ad N hI C 0 (by omega) f hs kn sl sv pd n hA x B hok hB hB0) (wq_imp (fun r C' q => ⟨q.1, ⟨hs, kn, pd, n, q.2.1, z1, z2, z3⟩, q.2.2 170 (by omega)⟩))
theorem k_traced (l : Launch) (D : va_G) (Y : Nat → ClassId) (ad : Nat → Nat) (N : Nat) (hI : wI ad N) (hN : 171 ≤ N) (C : Nat → va_E) {f : Nat → Int32} {sl : Nat → Nat → Int32} {sv : Nat → Int32} (hL : kLS Y ad C f sl sv) (x y z : Int32) {B : Int} (hok : okRow B f) (hB : B + 2000 ≤ 900000000) (hB0 : 0 ≤ B) : Met l yX7_traced (wm yX7_traced cX7_traced 4 (some .int)) { frames := 5, cells := 0, slots := 0, locals := 108 } (wPc D Y ad N [.ref (ad 0), .int x, .int y, .int z] C) (wQi D ad N (fun r C' => r = T_trc f x y z ∧ kLS Y ad C' f sl sv ∧ C' 170 = C 170)) 0 0 (wA ad N) := by
  obtain ⟨hs, kn, pd, n, hA, z1, z2, z3⟩ := id hL
  exact met_post (c_X7_traced l D Y ad N hI C 0 (by omega) f hs kn sl sv pd n hA x y z B hok hB hB0) (wq_imp (fun r C' q => ⟨q.1, ⟨hs, kn, pd, n, q.2.1, z1, z2, z3⟩, q.2.2 170 (by omega)⟩))
theorem k_save (l : Launch) (D : va_G) (Y : Nat → ClassId) (ad : Nat → Nat) (N : Nat) (hI : wI ad N) (hN : 171 ≤ N) (C : Nat → va_E) {f : Nat → Int32} {sl : Nat → Nat → Int32} {sv : Nat → Int32} (hL : kLS Y ad C f sl sv) (k : Nat) (hk : k < 2) : Met l yX7_save (wm yX7_save cX7_save 2 (some .int)) { frames := 3, cells := 0, slots := 0, locals := 67 } (wPc D Y ad N [.ref (ad 0), .int (nI k)] C) (wQi D ad N (fun r C' => r = f 4 ∧ kLS Y ad C' f (va_up sl k f) (upd sv k 1) ∧ C' 170 = C 170)) 0 0 (wA ad N) := by
  obtain ⟨hs, kn, pd, n, hA, z1, z2, z3⟩ := id hL
  exact met_post (c_X7_save l D Y ad N hI C 0 (by omega) f hs kn sl sv pd n hA (nI k) z3 z1 z2) (wq_imp (fun r C' q => by rw [nI_clamp (show k < 2 ^ 31 by omega)] at q; obtain ⟨a, b, c⟩ := q.1 (if_pos ⟨nI_le (Nat.zero_le k) (by omega), nI_lt (b := 2) hk (by decide)⟩); exact ⟨a, ⟨hs, kn, pd, n, b, z1, fun i hi => by by_cases e : i = k; (rw [e, va_up_self]; exact z3); (rw [va_up_ne _ _ e]; exact z2 i hi), z3⟩, c 170 (by omega)⟩))
theorem k_restore (l : Launch) (D : va_G) (Y : Nat → ClassId) (ad : Nat → Nat) (N : Nat) (hI : wI ad N) (hN : 171 ≤ N) (C : Nat → va_E) {f : Nat → Int32} {sl : Nat → Nat → Int32} {sv : Nat → Int32} (hL : kLS Y ad C f sl sv) (k : Nat) (hk : k < 2) (hv : ¬ sv k = 0) : Met l yX7_restore (wm yX7_restore cX7_restore 2 (some .int)) { frames := 4, cells := 0, slots := 0, locals := 88 } (wPc D Y ad N [.ref (ad 0), .int (nI k)] C) (wQi D ad N (fun r C' => r = sl k 4 ∧ kLS Y ad C' (sl k) sl sv ∧ C' 170 = C 170)) 0 0 (wA ad N) := by
  obtain ⟨hs, kn, pd, n, hA, z1, z2, z3⟩ := id hL
  exact met_post (c_X7_restore l D Y ad N hI C 0 (by omega) f hs kn sl sv pd n hA (nI k) z3 z1 z2) (wq_imp (fun r C' q => by rw [nI_clamp (show k < 2 ^ 31 by omega)] at q; obtain ⟨a, b, c⟩ := q.1 (ree_0 hk hv); exact ⟨a, ls_rec hA z1 z2 z3 (z2 k hk) b, c 170 (by omega)⟩))
