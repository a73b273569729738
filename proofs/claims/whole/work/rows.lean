section
-- ===== PART A: goes FIRST, ahead of the names: the tables' words, and 'selects' of the private methods out of them =====
/-- a private method of a class that the tables say can be made, by its rows of tables_1 -/
def lw_okq (q : MethodName × Nat) : Prop := (q.1.cls ≠ "java/lang/invoke/MethodHandle" ∧ q.1.cls ≠ "java/lang/invoke/VarHandle") ∧ Cond.instantiable q.1.cls q.2 ∈ tables_1 ∧ Cond.privateMethod q.1 ∈ tables_1 ∧ Cond.instanceMethod q.1 ∈ tables_1
theorem lw_p0 : lw_okq (⟨"HoopStairs$Hoop", "meet", "(IILHoopStairs$Settings;)V"⟩, 10) := ⟨⟨by decide +kernel, by decide +kernel⟩, List.mem_of_getElem? (i := 64) (by decide +kernel), List.mem_of_getElem? (i := 361) (by decide +kernel), List.mem_of_getElem? (i := 362) (by decide +kernel)⟩
theorem lw_p1 : lw_okq (⟨"HoopStairs$Hoop", "dropBy", "(II)V"⟩, 10) := ⟨⟨by decide +kernel, by decide +kernel⟩, List.mem_of_getElem? (i := 64) (by decide +kernel), List.mem_of_getElem? (i := 366) (by decide +kernel), List.mem_of_getElem? (i := 367) (by decide +kernel)⟩
theorem lw_p2 : lw_okq (⟨"HoopStairs$Hoop", "speedUpBy", "(I)V"⟩, 10) := ⟨⟨by decide +kernel, by decide +kernel⟩, List.mem_of_getElem? (i := 64) (by decide +kernel), List.mem_of_getElem? (i := 370) (by decide +kernel), List.mem_of_getElem? (i := 371) (by decide +kernel)⟩
theorem lw_p3 : lw_okq (⟨"HoopStairs$Hoop", "shakeBy", "(I)V"⟩, 10) := ⟨⟨by decide +kernel, by decide +kernel⟩, List.mem_of_getElem? (i := 64) (by decide +kernel), List.mem_of_getElem? (i := 375) (by decide +kernel), List.mem_of_getElem? (i := 376) (by decide +kernel)⟩
theorem lw_p4 : lw_okq (⟨"HoopStairs$Hoop", "rollAlong", "(II)V"⟩, 10) := ⟨⟨by decide +kernel, by decide +kernel⟩, List.mem_of_getElem? (i := 64) (by decide +kernel), List.mem_of_getElem? (i := 379) (by decide +kernel), List.mem_of_getElem? (i := 380) (by decide +kernel)⟩
theorem lw_p5 : lw_okq (⟨"HoopStairs$Hoop", "rightItselfBy", "(I)V"⟩, 10) := ⟨⟨by decide +kernel, by decide +kernel⟩, List.mem_of_getElem? (i := 64) (by decide +kernel), List.mem_of_getElem? (i := 386) (by decide +kernel), List.mem_of_getElem? (i := 387) (by decide +kernel)⟩
theorem lw_p6 : lw_okq (⟨"HoopStairs$Hoop", "goBehind", "(LHoopStairs$Stair;I)V"⟩, 10) := ⟨⟨by decide +kernel, by decide +kernel⟩, List.mem_of_getElem? (i := 64) (by decide +kernel), List.mem_of_getElem? (i := 390) (by decide +kernel), List.mem_of_getElem? (i := 391) (by decide +kernel)⟩
theorem lw_p7 : lw_okq (⟨"HoopStairs$State", "noteEnd", "()V"⟩, 7) := ⟨⟨by decide +kernel, by decide +kernel⟩, List.mem_of_getElem? (i := 21) (by decide +kernel), List.mem_of_getElem? (i := 397) (by decide +kernel), List.mem_of_getElem? (i := 398) (by decide +kernel)⟩
theorem lw_p8 : lw_okq (⟨"HoopStairs", "passesAfterTaps", "(II)Z"⟩, 6) := ⟨⟨by decide +kernel, by decide +kernel⟩, List.mem_of_getElem? (i := 13) (by decide +kernel), List.mem_of_getElem? (i := 502) (by decide +kernel), List.mem_of_getElem? (i := 503) (by decide +kernel)⟩
theorem lw_p9 : lw_okq (⟨"HoopStairs$Pad", "codeHere", "()I"⟩, 5) := ⟨⟨by decide +kernel, by decide +kernel⟩, List.mem_of_getElem? (i := 179) (by decide +kernel), List.mem_of_getElem? (i := 550) (by decide +kernel), List.mem_of_getElem? (i := 551) (by decide +kernel)⟩
theorem lw_p10 : lw_okq (⟨"HoopStairs$Pad", "readDigit", "()Z"⟩, 5) := ⟨⟨by decide +kernel, by decide +kernel⟩, List.mem_of_getElem? (i := 179) (by decide +kernel), List.mem_of_getElem? (i := 554) (by decide +kernel), List.mem_of_getElem? (i := 555) (by decide +kernel)⟩
theorem lw_p11 : lw_okq (⟨"HoopStairs$Pad", "readNumber", "()Z"⟩, 5) := ⟨⟨by decide +kernel, by decide +kernel⟩, List.mem_of_getElem? (i := 179) (by decide +kernel), List.mem_of_getElem? (i := 561) (by decide +kernel), List.mem_of_getElem? (i := 562) (by decide +kernel)⟩
theorem lw_p12 : lw_okq (⟨"HoopStairs", "orderError", "(II)I"⟩, 6) := ⟨⟨by decide +kernel, by decide +kernel⟩, List.mem_of_getElem? (i := 13) (by decide +kernel), List.mem_of_getElem? (i := 575) (by decide +kernel), List.mem_of_getElem? (i := 576) (by decide +kernel)⟩
theorem lw_p13 : lw_okq (⟨"HoopStairs", "carryOrder", "(II)I"⟩, 6) := ⟨⟨by decide +kernel, by decide +kernel⟩, List.mem_of_getElem? (i := 13) (by decide +kernel), List.mem_of_getElem? (i := 579) (by decide +kernel), List.mem_of_getElem? (i := 580) (by decide +kernel)⟩
theorem lw_p14 : lw_okq (⟨"HoopStairsModel", "remembers", "()V"⟩, 8) := ⟨⟨by decide +kernel, by decide +kernel⟩, List.mem_of_getElem? (i := 601) (by decide +kernel), List.mem_of_getElem? (i := 642) (by decide +kernel), List.mem_of_getElem? (i := 643) (by decide +kernel)⟩
theorem lw_p15 : lw_okq (⟨"HoopStairsModel", "whyNotPart", "(III)I"⟩, 8) := ⟨⟨by decide +kernel, by decide +kernel⟩, List.mem_of_getElem? (i := 601) (by decide +kernel), List.mem_of_getElem? (i := 650) (by decide +kernel), List.mem_of_getElem? (i := 651) (by decide +kernel)⟩
def lw_privs_1 : List (MethodName × Nat) := [(⟨"HoopStairs$Hoop", "meet", "(IILHoopStairs$Settings;)V"⟩, 10), (⟨"HoopStairs$Hoop", "dropBy", "(II)V"⟩, 10), (⟨"HoopStairs$Hoop", "speedUpBy", "(I)V"⟩, 10), (⟨"HoopStairs$Hoop", "shakeBy", "(I)V"⟩, 10), (⟨"HoopStairs$Hoop", "rollAlong", "(II)V"⟩, 10), (⟨"HoopStairs$Hoop", "rightItselfBy", "(I)V"⟩, 10), (⟨"HoopStairs$Hoop", "goBehind", "(LHoopStairs$Stair;I)V"⟩, 10), (⟨"HoopStairs$State", "noteEnd", "()V"⟩, 7), (⟨"HoopStairs", "passesAfterTaps", "(II)Z"⟩, 6), (⟨"HoopStairs$Pad", "codeHere", "()I"⟩, 5), (⟨"HoopStairs$Pad", "readDigit", "()Z"⟩, 5), (⟨"HoopStairs$Pad", "readNumber", "()Z"⟩, 5), (⟨"HoopStairs", "orderError", "(II)I"⟩, 6), (⟨"HoopStairs", "carryOrder", "(II)I"⟩, 6), (⟨"HoopStairsModel", "remembers", "()V"⟩, 8), (⟨"HoopStairsModel", "whyNotPart", "(III)I"⟩, 8)]
theorem lw_r1 : ∀ q ∈ lw_privs_1, lw_okq q := List.forall_mem_cons.mpr ⟨lw_p0, List.forall_mem_cons.mpr ⟨lw_p1, List.forall_mem_cons.mpr ⟨lw_p2, List.forall_mem_cons.mpr ⟨lw_p3, List.forall_mem_cons.mpr ⟨lw_p4, List.forall_mem_cons.mpr ⟨lw_p5, List.forall_mem_cons.mpr ⟨lw_p6, List.forall_mem_cons.mpr ⟨lw_p7, List.forall_mem_cons.mpr ⟨lw_p8, List.forall_mem_cons.mpr ⟨lw_p9, List.forall_mem_cons.mpr ⟨lw_p10, List.forall_mem_cons.mpr ⟨lw_p11, List.forall_mem_cons.mpr ⟨lw_p12, List.forall_mem_cons.mpr ⟨lw_p13, List.forall_mem_cons.mpr ⟨lw_p14, List.forall_mem_cons.mpr ⟨lw_p15, fun _ h => absurd h List.not_mem_nil⟩⟩⟩⟩⟩⟩⟩⟩⟩⟩⟩⟩⟩⟩⟩⟩
theorem lw_p16 : lw_okq (⟨"HoopStairsModel", "comes", "(III)I"⟩, 8) := ⟨⟨by decide +kernel, by decide +kernel⟩, List.mem_of_getElem? (i := 601) (by decide +kernel), List.mem_of_getElem? (i := 654) (by decide +kernel), List.mem_of_getElem? (i := 655) (by decide +kernel)⟩
theorem lw_p17 : lw_okq (⟨"HoopStairsModel", "isPart", "(I)Z"⟩, 8) := ⟨⟨by decide +kernel, by decide +kernel⟩, List.mem_of_getElem? (i := 601) (by decide +kernel), List.mem_of_getElem? (i := 665) (by decide +kernel), List.mem_of_getElem? (i := 666) (by decide +kernel)⟩
theorem lw_p18 : lw_okq (⟨"HoopStairsModel", "begins", "(II)V"⟩, 8) := ⟨⟨by decide +kernel, by decide +kernel⟩, List.mem_of_getElem? (i := 601) (by decide +kernel), List.mem_of_getElem? (i := 673) (by decide +kernel), List.mem_of_getElem? (i := 674) (by decide +kernel)⟩
theorem lw_p19 : lw_okq (⟨"HoopStairsModel", "whyNotRoll", "(I)I"⟩, 8) := ⟨⟨by decide +kernel, by decide +kernel⟩, List.mem_of_getElem? (i := 601) (by decide +kernel), List.mem_of_getElem? (i := 681) (by decide +kernel), List.mem_of_getElem? (i := 682) (by decide +kernel)⟩
theorem lw_p20 : lw_okq (⟨"HoopStairsModel", "isRolling", "()Z"⟩, 8) := ⟨⟨by decide +kernel, by decide +kernel⟩, List.mem_of_getElem? (i := 601) (by decide +kernel), List.mem_of_getElem? (i := 685) (by decide +kernel), List.mem_of_getElem? (i := 686) (by decide +kernel)⟩
theorem lw_p21 : lw_okq (⟨"HoopStairsModel", "rolls", "(II)I"⟩, 8) := ⟨⟨by decide +kernel, by decide +kernel⟩, List.mem_of_getElem? (i := 601) (by decide +kernel), List.mem_of_getElem? (i := 689) (by decide +kernel), List.mem_of_getElem? (i := 690) (by decide +kernel)⟩
theorem lw_p22 : lw_okq (⟨"HoopStairsModel", "passesPart", "(I)I"⟩, 8) := ⟨⟨by decide +kernel, by decide +kernel⟩, List.mem_of_getElem? (i := 601) (by decide +kernel), List.mem_of_getElem? (i := 693) (by decide +kernel), List.mem_of_getElem? (i := 694) (by decide +kernel)⟩
theorem lw_p23 : lw_okq (⟨"HoopStairsModel", "drops", "(II)V"⟩, 8) := ⟨⟨by decide +kernel, by decide +kernel⟩, List.mem_of_getElem? (i := 601) (by decide +kernel), List.mem_of_getElem? (i := 697) (by decide +kernel), List.mem_of_getElem? (i := 698) (by decide +kernel)⟩
theorem lw_p24 : lw_okq (⟨"HoopStairsModel", "lands", "(II)V"⟩, 8) := ⟨⟨by decide +kernel, by decide +kernel⟩, List.mem_of_getElem? (i := 601) (by decide +kernel), List.mem_of_getElem? (i := 704) (by decide +kernel), List.mem_of_getElem? (i := 705) (by decide +kernel)⟩
theorem lw_p25 : lw_okq (⟨"HoopStairsModel", "ends", "(II)V"⟩, 8) := ⟨⟨by decide +kernel, by decide +kernel⟩, List.mem_of_getElem? (i := 601) (by decide +kernel), List.mem_of_getElem? (i := 711) (by decide +kernel), List.mem_of_getElem? (i := 712) (by decide +kernel)⟩
theorem lw_p26 : lw_okq (⟨"HoopStairsModel", "lists", "(I)V"⟩, 8) := ⟨⟨by decide +kernel, by decide +kernel⟩, List.mem_of_getElem? (i := 601) (by decide +kernel), List.mem_of_getElem? (i := 715) (by decide +kernel), List.mem_of_getElem? (i := 716) (by decide +kernel)⟩
theorem lw_p27 : lw_okq (⟨"HoopStairsModel", "taps", "(II)V"⟩, 8) := ⟨⟨by decide +kernel, by decide +kernel⟩, List.mem_of_getElem? (i := 601) (by decide +kernel), List.mem_of_getElem? (i := 723) (by decide +kernel), List.mem_of_getElem? (i := 724) (by decide +kernel)⟩
theorem lw_p28 : lw_okq (⟨"HoopStairsModel", "pushes", "()I"⟩, 8) := ⟨⟨by decide +kernel, by decide +kernel⟩, List.mem_of_getElem? (i := 601) (by decide +kernel), List.mem_of_getElem? (i := 731) (by decide +kernel), List.mem_of_getElem? (i := 732) (by decide +kernel)⟩
theorem lw_p29 : lw_okq (⟨"HoopStairsModel", "ofParts", "(I)I"⟩, 8) := ⟨⟨by decide +kernel, by decide +kernel⟩, List.mem_of_getElem? (i := 601) (by decide +kernel), List.mem_of_getElem? (i := 751) (by decide +kernel), List.mem_of_getElem? (i := 752) (by decide +kernel)⟩
theorem lw_p30 : lw_okq (⟨"HoopStairsModel", "copies", "()V"⟩, 8) := ⟨⟨by decide +kernel, by decide +kernel⟩, List.mem_of_getElem? (i := 601) (by decide +kernel), List.mem_of_getElem? (i := 759) (by decide +kernel), List.mem_of_getElem? (i := 760) (by decide +kernel)⟩
theorem lw_p31 : lw_okq (⟨"HoopStairsModel", "orderEnd", "(I)I"⟩, 8) := ⟨⟨by decide +kernel, by decide +kernel⟩, List.mem_of_getElem? (i := 601) (by decide +kernel), List.mem_of_getElem? (i := 788) (by decide +kernel), List.mem_of_getElem? (i := 789) (by decide +kernel)⟩
def lw_privs_2 : List (MethodName × Nat) := [(⟨"HoopStairsModel", "comes", "(III)I"⟩, 8), (⟨"HoopStairsModel", "isPart", "(I)Z"⟩, 8), (⟨"HoopStairsModel", "begins", "(II)V"⟩, 8), (⟨"HoopStairsModel", "whyNotRoll", "(I)I"⟩, 8), (⟨"HoopStairsModel", "isRolling", "()Z"⟩, 8), (⟨"HoopStairsModel", "rolls", "(II)I"⟩, 8), (⟨"HoopStairsModel", "passesPart", "(I)I"⟩, 8), (⟨"HoopStairsModel", "drops", "(II)V"⟩, 8), (⟨"HoopStairsModel", "lands", "(II)V"⟩, 8), (⟨"HoopStairsModel", "ends", "(II)V"⟩, 8), (⟨"HoopStairsModel", "lists", "(I)V"⟩, 8), (⟨"HoopStairsModel", "taps", "(II)V"⟩, 8), (⟨"HoopStairsModel", "pushes", "()I"⟩, 8), (⟨"HoopStairsModel", "ofParts", "(I)I"⟩, 8), (⟨"HoopStairsModel", "copies", "()V"⟩, 8), (⟨"HoopStairsModel", "orderEnd", "(I)I"⟩, 8)]
theorem lw_r2 : ∀ q ∈ lw_privs_2, lw_okq q := List.forall_mem_cons.mpr ⟨lw_p16, List.forall_mem_cons.mpr ⟨lw_p17, List.forall_mem_cons.mpr ⟨lw_p18, List.forall_mem_cons.mpr ⟨lw_p19, List.forall_mem_cons.mpr ⟨lw_p20, List.forall_mem_cons.mpr ⟨lw_p21, List.forall_mem_cons.mpr ⟨lw_p22, List.forall_mem_cons.mpr ⟨lw_p23, List.forall_mem_cons.mpr ⟨lw_p24, List.forall_mem_cons.mpr ⟨lw_p25, List.forall_mem_cons.mpr ⟨lw_p26, List.forall_mem_cons.mpr ⟨lw_p27, List.forall_mem_cons.mpr ⟨lw_p28, List.forall_mem_cons.mpr ⟨lw_p29, List.forall_mem_cons.mpr ⟨lw_p30, List.forall_mem_cons.mpr ⟨lw_p31, fun _ h => absurd h List.not_mem_nil⟩⟩⟩⟩⟩⟩⟩⟩⟩⟩⟩⟩⟩⟩⟩⟩
theorem lw_p32 : lw_okq (⟨"HoopStairsModel", "sign", "(I)I"⟩, 8) := ⟨⟨by decide +kernel, by decide +kernel⟩, List.mem_of_getElem? (i := 601) (by decide +kernel), List.mem_of_getElem? (i := 792) (by decide +kernel), List.mem_of_getElem? (i := 793) (by decide +kernel)⟩
theorem lw_p33 : lw_okq (⟨"HoopStairsModel", "digit", "(I)I"⟩, 8) := ⟨⟨by decide +kernel, by decide +kernel⟩, List.mem_of_getElem? (i := 601) (by decide +kernel), List.mem_of_getElem? (i := 796) (by decide +kernel), List.mem_of_getElem? (i := 797) (by decide +kernel)⟩
theorem lw_p34 : lw_okq (⟨"HoopStairsModel", "numberEnd", "(I)I"⟩, 8) := ⟨⟨by decide +kernel, by decide +kernel⟩, List.mem_of_getElem? (i := 601) (by decide +kernel), List.mem_of_getElem? (i := 800) (by decide +kernel), List.mem_of_getElem? (i := 801) (by decide +kernel)⟩
theorem lw_p35 : lw_okq (⟨"HoopStairsModel", "whyNot", "(I)I"⟩, 8) := ⟨⟨by decide +kernel, by decide +kernel⟩, List.mem_of_getElem? (i := 601) (by decide +kernel), List.mem_of_getElem? (i := 809) (by decide +kernel), List.mem_of_getElem? (i := 810) (by decide +kernel)⟩
theorem lw_p36 : lw_okq (⟨"HoopStairsModel", "numberAt", "(I)I"⟩, 8) := ⟨⟨by decide +kernel, by decide +kernel⟩, List.mem_of_getElem? (i := 601) (by decide +kernel), List.mem_of_getElem? (i := 813) (by decide +kernel), List.mem_of_getElem? (i := 814) (by decide +kernel)⟩
theorem lw_p37 : lw_okq (⟨"HoopStairsModel", "does", "(I)V"⟩, 8) := ⟨⟨by decide +kernel, by decide +kernel⟩, List.mem_of_getElem? (i := 601) (by decide +kernel), List.mem_of_getElem? (i := 820) (by decide +kernel), List.mem_of_getElem? (i := 821) (by decide +kernel)⟩
def lw_privs_3 : List (MethodName × Nat) := [(⟨"HoopStairsModel", "sign", "(I)I"⟩, 8), (⟨"HoopStairsModel", "digit", "(I)I"⟩, 8), (⟨"HoopStairsModel", "numberEnd", "(I)I"⟩, 8), (⟨"HoopStairsModel", "whyNot", "(I)I"⟩, 8), (⟨"HoopStairsModel", "numberAt", "(I)I"⟩, 8), (⟨"HoopStairsModel", "does", "(I)V"⟩, 8)]
theorem lw_r3 : ∀ q ∈ lw_privs_3, lw_okq q := List.forall_mem_cons.mpr ⟨lw_p32, List.forall_mem_cons.mpr ⟨lw_p33, List.forall_mem_cons.mpr ⟨lw_p34, List.forall_mem_cons.mpr ⟨lw_p35, List.forall_mem_cons.mpr ⟨lw_p36, List.forall_mem_cons.mpr ⟨lw_p37, fun _ h => absurd h List.not_mem_nil⟩⟩⟩⟩⟩⟩
def lw_privs : List (MethodName × Nat) := lw_privs_1 ++ (lw_privs_2 ++ (lw_privs_3))
def lw_tbl : List Cond := k2_sels lw_privs ++ tables_1
theorem lw_privs_ok : ∀ q ∈ lw_privs, lw_okq q := by
  show ∀ q ∈ lw_privs_1 ++ (lw_privs_2 ++ (lw_privs_3)), lw_okq q
  exact List.forall_mem_append.mpr ⟨lw_r1, List.forall_mem_append.mpr ⟨lw_r2, lw_r3⟩⟩
end
section
/-! Names of the claim, out of its NAMES by wip/gen/mknames.py. -/
/-! ===== BEGIN words of one list among another's, by their places ===== -/
theorem goodIn_r {big : List Cond} (ws : List Cond) (ps : List Nat) (hp : ws = ps.filterMap (fun i => big[i]?)) (h : ws.all goodWord = true) : GoodIn big ws := by
  intro w hw
  have h1 := List.all_eq_true.mp h w hw
  rw [hp] at hw
  obtain ⟨i, -, hi⟩ := List.mem_filterMap.mp hw
  have hm : w ∈ big := by first | exact List.mem_of_getElem? hi | exact List.getElem?_mem hi
  exact ⟨hm, good_of_word h1⟩
theorem goodIn_app {big a b : List Cond} (ha : GoodIn big a) (hb : GoodIn big b) : GoodIn big (a ++ b) := fun w h => (List.mem_append.mp h).elim (ha w) (hb w)
theorem goodIn_ca {big a b : List Cond} {c : Cond} (ha : GoodIn big (c :: a)) (hb : GoodIn big b) : GoodIn big (c :: (a ++ b)) := fun w h => (List.mem_cons.mp h).elim (fun e => ha w (List.mem_cons.mpr (Or.inl e))) (fun h => (List.mem_append.mp h).elim (fun h => ha w (List.mem_cons.mpr (Or.inr h))) (hb w))
theorem goodIn_sub {big ws : List Cond} (hm : ∀ w ∈ ws, w ∈ big) (h : ws.all goodWord = true) : GoodIn big ws := fun w hw => ⟨hm w hw, good_of_word (List.all_eq_true.mp h w hw)⟩
/-! ===== END ===== -/

def RX0 : String := "HoopStairs$History"
def TX0 : u_T := fun k => match k with
  | 0 => ("HoopStairs$History", "states", "[LHoopStairs$State;", true)
  | 1 => ("HoopStairs$History", "next", "I", false)
  | _ => ("HoopStairs$History", "length", "I", false)
def tyX0 : Nat → FieldType := fun k => match k with
  | 0 => .array (.object "HoopStairs$State")
  | 1 => .int
  | _ => .int
abbrev wsX00 : List Cond := u_ws RX0 TX0 3
theorem nmX0 : ∀ a, a < 3 → ∀ b, b < 3 → a ≠ b → (TX0 a).2.1 ≠ (TX0 b).2.1 := by decide +kernel
theorem tyX0_ok : ∀ k, k < 3 → parseFieldDescriptor (TX0 k).2.2.1 = some (tyX0 k) := by decide +kernel
abbrev cX0_init : ByteArray := prog_2_method_1_code
def yX0_init : MethodName := ⟨RX0, "<init>", "()V"⟩
abbrev cX0_record : ByteArray := prog_2_method_2_code
def yX0_record : MethodName := ⟨RX0, "record", "(LHoopStairs$State;)V"⟩
abbrev cX0_stepBack : ByteArray := prog_2_method_3_code
def yX0_stepBack : MethodName := ⟨RX0, "stepBack", "(LHoopStairs$State;)I"⟩
def RX1 : String := "HoopStairs$Hoop"
def TX1 : u_T := fun k => match k with
  | 0 => ("HoopStairs$Hoop", "there", "Z", false)
  | 1 => ("HoopStairs$Hoop", "size", "I", false)
  | 2 => ("HoopStairs$Hoop", "speed", "I", false)
  | 3 => ("HoopStairs$Hoop", "lean", "I", false)
  | 4 => ("HoopStairs$Hoop", "wobble", "I", false)
  | 5 => ("HoopStairs$Hoop", "place", "I", false)
  | 6 => ("HoopStairs$Hoop", "ending", "I", false)
  | 7 => ("HoopStairs$Hoop", "taps", "I", false)
  | 8 => ("HoopStairs$Hoop", "pushes", "I", false)
  | _ => ("HoopStairs$Hoop", "greatestLean", "I", false)
def tyX1 : Nat → FieldType := fun k => match k with
  | 0 => .boolean
  | 1 => .int
  | 2 => .int
  | 3 => .int
  | 4 => .int
  | 5 => .int
  | 6 => .int
  | 7 => .int
  | 8 => .int
  | _ => .int
abbrev wsX10 : List Cond := u_ws RX1 TX1 10
theorem nmX1 : ∀ a, a < 10 → ∀ b, b < 10 → a ≠ b → (TX1 a).2.1 ≠ (TX1 b).2.1 := by decide +kernel
theorem tyX1_ok : ∀ k, k < 10 → parseFieldDescriptor (TX1 k).2.2.1 = some (tyX1 k) := by decide +kernel
abbrev cX1_init : ByteArray := prog_3_method_1_code
def yX1_init : MethodName := ⟨RX1, "<init>", "()V"⟩
abbrev cX1_copyFrom : ByteArray := prog_3_method_2_code
def yX1_copyFrom : MethodName := ⟨RX1, "copyFrom", "(LHoopStairs$Hoop;)V"⟩
abbrev cX1_allows : ByteArray := prog_3_method_3_code
def yX1_allows : MethodName := ⟨RX1, "allows", "(I)Z"⟩
abbrev cX1_begin : ByteArray := prog_3_method_4_code
def yX1_begin : MethodName := ⟨RX1, "begin", "(I)V"⟩
abbrev cX1_vanish : ByteArray := prog_3_method_5_code
def yX1_vanish : MethodName := ⟨RX1, "vanish", "()V"⟩
abbrev cX1_rolls : ByteArray := prog_3_method_6_code
def yX1_rolls : MethodName := ⟨RX1, "rolls", "()Z"⟩
abbrev cX1_takeTap : ByteArray := prog_3_method_7_code
def yX1_takeTap : MethodName := ⟨RX1, "takeTap", "(II)V"⟩
abbrev cX1_takePush : ByteArray := prog_3_method_8_code
def yX1_takePush : MethodName := ⟨RX1, "takePush", "()V"⟩
abbrev cX1_rollOver : ByteArray := prog_3_method_9_code
def yX1_rollOver : MethodName := ⟨RX1, "rollOver", "(ILHoopStairs$Stair;LHoopStairs$Settings;)V"⟩
abbrev cX1_meet : ByteArray := prog_3_method_10_code
def yX1_meet : MethodName := ⟨RX1, "meet", "(IILHoopStairs$Settings;)V"⟩
abbrev cX1_goBehind : ByteArray := prog_3_method_11_code
def yX1_goBehind : MethodName := ⟨RX1, "goBehind", "(LHoopStairs$Stair;I)V"⟩
abbrev cX1_dropBy : ByteArray := prog_3_method_12_code
def yX1_dropBy : MethodName := ⟨RX1, "dropBy", "(II)V"⟩
abbrev cX1_rollAlong : ByteArray := prog_3_method_13_code
def yX1_rollAlong : MethodName := ⟨RX1, "rollAlong", "(II)V"⟩
abbrev cX1_rightItselfBy : ByteArray := prog_3_method_14_code
def yX1_rightItselfBy : MethodName := ⟨RX1, "rightItselfBy", "(I)V"⟩
abbrev cX1_speedUpBy : ByteArray := prog_3_method_15_code
def yX1_speedUpBy : MethodName := ⟨RX1, "speedUpBy", "(I)V"⟩
abbrev cX1_shakeBy : ByteArray := prog_3_method_16_code
def yX1_shakeBy : MethodName := ⟨RX1, "shakeBy", "(I)V"⟩
def RX2 : String := "HoopStairs$Pad"
def TX2 : u_T := fun k => match k with
  | 0 => ("HoopStairs$Pad", "codes", "[I", true)
  | 1 => ("HoopStairs$Pad", "length", "I", false)
  | 2 => ("HoopStairs$Pad", "at", "I", false)
  | 3 => ("HoopStairs$Pad", "letter", "I", false)
  | _ => ("HoopStairs$Pad", "number", "I", false)
def tyX2 : Nat → FieldType := fun k => match k with
  | 0 => .array .int
  | 1 => .int
  | 2 => .int
  | 3 => .int
  | _ => .int
abbrev wsX20 : List Cond := u_ws RX2 TX2 5
theorem nmX2 : ∀ a, a < 5 → ∀ b, b < 5 → a ≠ b → (TX2 a).2.1 ≠ (TX2 b).2.1 := by decide +kernel
theorem tyX2_ok : ∀ k, k < 5 → parseFieldDescriptor (TX2 k).2.2.1 = some (tyX2 k) := by decide +kernel
abbrev cX2_init : ByteArray := prog_4_method_1_code
def yX2_init : MethodName := ⟨RX2, "<init>", "()V"⟩
abbrev cX2_codeIn : ByteArray := prog_4_method_2_code
def yX2_codeIn : MethodName := ⟨RX2, "codeIn", "(JI)I"⟩
abbrev cX2_charactersIn : ByteArray := prog_4_method_3_code
def yX2_charactersIn : MethodName := ⟨RX2, "charactersIn", "(J)I"⟩
abbrev cX2_append : ByteArray := prog_4_method_4_code
def yX2_append : MethodName := ⟨RX2, "append", "(JI)I"⟩
abbrev cX2_empty : ByteArray := prog_4_method_5_code
def yX2_empty : MethodName := ⟨RX2, "empty", "()I"⟩
abbrev cX2_firstFault : ByteArray := prog_4_method_6_code
def yX2_firstFault : MethodName := ⟨RX2, "firstFault", "()I"⟩
abbrev cX2_startReading : ByteArray := prog_4_method_7_code
def yX2_startReading : MethodName := ⟨RX2, "startReading", "()V"⟩
abbrev cX2_readOrder : ByteArray := prog_4_method_8_code
def yX2_readOrder : MethodName := ⟨RX2, "readOrder", "()Z"⟩
abbrev cX2_skipSeparator : ByteArray := prog_4_method_9_code
def yX2_skipSeparator : MethodName := ⟨RX2, "skipSeparator", "()Z"⟩
abbrev cX2_readDigit : ByteArray := prog_4_method_10_code
def yX2_readDigit : MethodName := ⟨RX2, "readDigit", "()Z"⟩
abbrev cX2_readNumber : ByteArray := prog_4_method_11_code
def yX2_readNumber : MethodName := ⟨RX2, "readNumber", "()Z"⟩
abbrev cX2_codeHere : ByteArray := prog_4_method_12_code
def yX2_codeHere : MethodName := ⟨RX2, "codeHere", "()I"⟩
abbrev cX2_isDigit : ByteArray := prog_4_method_13_code
def yX2_isDigit : MethodName := ⟨RX2, "isDigit", "(I)Z"⟩
def RX3 : String := "HoopStairs$RunLog"
def TX3 : u_T := fun k => match k with
  | 0 => ("HoopStairs$RunLog", "columns", "[[I", true)
  | _ => ("HoopStairs$RunLog", "length", "I", false)
def tyX3 : Nat → FieldType := fun k => match k with
  | 0 => .array (.array .int)
  | _ => .int
abbrev wsX30 : List Cond := u_ws RX3 TX3 2
theorem nmX3 : ∀ a, a < 2 → ∀ b, b < 2 → a ≠ b → (TX3 a).2.1 ≠ (TX3 b).2.1 := by decide +kernel
theorem tyX3_ok : ∀ k, k < 2 → parseFieldDescriptor (TX3 k).2.2.1 = some (tyX3 k) := by decide +kernel
abbrev cX3_init : ByteArray := prog_5_method_1_code
def yX3_init : MethodName := ⟨RX3, "<init>", "()V"⟩
abbrev cX3_copyFrom : ByteArray := prog_5_method_2_code
def yX3_copyFrom : MethodName := ⟨RX3, "copyFrom", "(LHoopStairs$RunLog;)V"⟩
abbrev cX3_has : ByteArray := prog_5_method_3_code
def yX3_has : MethodName := ⟨RX3, "has", "(I)Z"⟩
abbrev cX3_entry : ByteArray := prog_5_method_4_code
def yX3_entry : MethodName := ⟨RX3, "entry", "(II)I"⟩
abbrev cX3_add : ByteArray := prog_5_method_5_code
def yX3_add : MethodName := ⟨RX3, "add", "(LHoopStairs$Hoop;)V"⟩
def RX4 : String := "HoopStairs$Settings"
def TX4 : u_T := fun k => match k with
  | _ => ("HoopStairs$Settings", "values", "[I", true)
def tyX4 : Nat → FieldType := fun k => match k with
  | _ => .array .int
abbrev wsX40 : List Cond := u_ws RX4 TX4 1
theorem nmX4 : ∀ a, a < 1 → ∀ b, b < 1 → a ≠ b → (TX4 a).2.1 ≠ (TX4 b).2.1 := by decide +kernel
theorem tyX4_ok : ∀ k, k < 1 → parseFieldDescriptor (TX4 k).2.2.1 = some (tyX4 k) := by decide +kernel
abbrev cX4_init : ByteArray := prog_6_method_1_code
def yX4_init : MethodName := ⟨RX4, "<init>", "()V"⟩
abbrev cX4_copyFrom : ByteArray := prog_6_method_2_code
def yX4_copyFrom : MethodName := ⟨RX4, "copyFrom", "(LHoopStairs$Settings;)V"⟩
abbrev cX4_allows : ByteArray := prog_6_method_3_code
def yX4_allows : MethodName := ⟨RX4, "allows", "(II)Z"⟩
abbrev cX4_value : ByteArray := prog_6_method_4_code
def yX4_value : MethodName := ⟨RX4, "value", "(I)I"⟩
abbrev cX4_change : ByteArray := prog_6_method_5_code
def yX4_change : MethodName := ⟨RX4, "change", "(II)I"⟩
def RX5 : String := "HoopStairs$Stair"
def TX5 : u_T := fun k => match k with
  | 0 => ("HoopStairs$Stair", "columns", "[[I", true)
  | _ => ("HoopStairs$Stair", "length", "I", false)
def tyX5 : Nat → FieldType := fun k => match k with
  | 0 => .array (.array .int)
  | _ => .int
abbrev wsX50 : List Cond := u_ws RX5 TX5 2
theorem nmX5 : ∀ a, a < 2 → ∀ b, b < 2 → a ≠ b → (TX5 a).2.1 ≠ (TX5 b).2.1 := by decide +kernel
theorem tyX5_ok : ∀ k, k < 2 → parseFieldDescriptor (TX5 k).2.2.1 = some (tyX5 k) := by decide +kernel
abbrev cX5_init : ByteArray := prog_7_method_1_code
def yX5_init : MethodName := ⟨RX5, "<init>", "()V"⟩
abbrev cX5_copyFrom : ByteArray := prog_7_method_2_code
def yX5_copyFrom : MethodName := ⟨RX5, "copyFrom", "(LHoopStairs$Stair;)V"⟩
abbrev cX5_has : ByteArray := prog_7_method_3_code
def yX5_has : MethodName := ⟨RX5, "has", "(I)Z"⟩
abbrev cX5_allows : ByteArray := prog_7_method_4_code
def yX5_allows : MethodName := ⟨RX5, "allows", "(II)Z"⟩
abbrev cX5_entry : ByteArray := prog_7_method_5_code
def yX5_entry : MethodName := ⟨RX5, "entry", "(II)I"⟩
abbrev cX5_insert : ByteArray := prog_7_method_6_code
def yX5_insert : MethodName := ⟨RX5, "insert", "(III)V"⟩
abbrev cX5_remove : ByteArray := prog_7_method_7_code
def yX5_remove : MethodName := ⟨RX5, "remove", "(I)V"⟩
abbrev cX5_noteEnd : ByteArray := prog_7_method_8_code
def yX5_noteEnd : MethodName := ⟨RX5, "noteEnd", "(II)V"⟩
abbrev cX5_sumOf : ByteArray := prog_7_method_9_code
def yX5_sumOf : MethodName := ⟨RX5, "sumOf", "(I)I"⟩
abbrev cX5_narrowestGate : ByteArray := prog_7_method_10_code
def yX5_narrowestGate : MethodName := ⟨RX5, "narrowestGate", "()I"⟩
def RX6 : String := "HoopStairs$State"
def TX6 : u_T := fun k => match k with
  | 0 => ("HoopStairs$State", "settings", "LHoopStairs$Settings;", true)
  | 1 => ("HoopStairs$State", "stair", "LHoopStairs$Stair;", true)
  | 2 => ("HoopStairs$State", "hoop", "LHoopStairs$Hoop;", true)
  | 3 => ("HoopStairs$State", "log", "LHoopStairs$RunLog;", true)
  | 4 => ("HoopStairs$State", "ended", "[I", true)
  | 5 => ("HoopStairs$State", "runs", "I", false)
  | _ => ("HoopStairs$State", "taps", "I", false)
def tyX6 : Nat → FieldType := fun k => match k with
  | 0 => .object "HoopStairs$Settings"
  | 1 => .object "HoopStairs$Stair"
  | 2 => .object "HoopStairs$Hoop"
  | 3 => .object "HoopStairs$RunLog"
  | 4 => .array .int
  | 5 => .int
  | _ => .int
abbrev wsX60 : List Cond := u_ws RX6 TX6 7
theorem nmX6 : ∀ a, a < 7 → ∀ b, b < 7 → a ≠ b → (TX6 a).2.1 ≠ (TX6 b).2.1 := by decide +kernel
theorem tyX6_ok : ∀ k, k < 7 → parseFieldDescriptor (TX6 k).2.2.1 = some (tyX6 k) := by decide +kernel
abbrev cX6_init : ByteArray := prog_8_method_1_code
def yX6_init : MethodName := ⟨RX6, "<init>", "()V"⟩
abbrev cX6_copyFrom : ByteArray := prog_8_method_2_code
def yX6_copyFrom : MethodName := ⟨RX6, "copyFrom", "(LHoopStairs$State;)V"⟩
abbrev cX6_partError : ByteArray := prog_8_method_3_code
def yX6_partError : MethodName := ⟨RX6, "partError", "(III)I"⟩
abbrev cX6_addPart : ByteArray := prog_8_method_4_code
def yX6_addPart : MethodName := ⟨RX6, "addPart", "(III)I"⟩
abbrev cX6_removePart : ByteArray := prog_8_method_5_code
def yX6_removePart : MethodName := ⟨RX6, "removePart", "(I)I"⟩
abbrev cX6_beginRun : ByteArray := prog_8_method_6_code
def yX6_beginRun : MethodName := ⟨RX6, "beginRun", "(I)I"⟩
abbrev cX6_rollError : ByteArray := prog_8_method_7_code
def yX6_rollError : MethodName := ⟨RX6, "rollError", "(I)I"⟩
abbrev cX6_rollOver : ByteArray := prog_8_method_8_code
def yX6_rollOver : MethodName := ⟨RX6, "rollOver", "(I)I"⟩
abbrev cX6_noteEnd : ByteArray := prog_8_method_9_code
def yX6_noteEnd : MethodName := ⟨RX6, "noteEnd", "()V"⟩
abbrev cX6_tapError : ByteArray := prog_8_method_10_code
def yX6_tapError : MethodName := ⟨RX6, "tapError", "(I)I"⟩
abbrev cX6_tapFrom : ByteArray := prog_8_method_11_code
def yX6_tapFrom : MethodName := ⟨RX6, "tapFrom", "(I)I"⟩
abbrev cX6_pushError : ByteArray := prog_8_method_12_code
def yX6_pushError : MethodName := ⟨RX6, "pushError", "()I"⟩
abbrev cX6_pushOn : ByteArray := prog_8_method_13_code
def yX6_pushOn : MethodName := ⟨RX6, "pushOn", "()I"⟩
abbrev cX6_number : ByteArray := prog_8_method_14_code
def yX6_number : MethodName := ⟨RX6, "number", "(I)I"⟩
def RX7 : String := "HoopStairs"
def TX7 : u_T := fun k => match k with
  | 0 => ("HoopStairs", "now", "LHoopStairs$State;", true)
  | 1 => ("HoopStairs", "history", "LHoopStairs$History;", true)
  | 2 => ("HoopStairs", "slots", "[LHoopStairs$State;", true)
  | 3 => ("HoopStairs", "filled", "[Z", true)
  | 4 => ("HoopStairs", "pad", "LHoopStairs$Pad;", true)
  | _ => ("HoopStairs", "trial", "LHoopStairs$Hoop;", true)
def tyX7 : Nat → FieldType := fun k => match k with
  | 0 => .object "HoopStairs$State"
  | 1 => .object "HoopStairs$History"
  | 2 => .array (.object "HoopStairs$State")
  | 3 => .array .boolean
  | 4 => .object "HoopStairs$Pad"
  | _ => .object "HoopStairs$Hoop"
abbrev wsX70 : List Cond := u_ws RX7 TX7 6
theorem nmX7 : ∀ a, a < 6 → ∀ b, b < 6 → a ≠ b → (TX7 a).2.1 ≠ (TX7 b).2.1 := by decide +kernel
theorem tyX7_ok : ∀ k, k < 6 → parseFieldDescriptor (TX7 k).2.2.1 = some (tyX7 k) := by decide +kernel
abbrev cX7_init : ByteArray := prog_1_method_1_code
def yX7_init : MethodName := ⟨RX7, "<init>", "()V"⟩
abbrev cX7_set : ByteArray := prog_1_method_2_code
def yX7_set : MethodName := ⟨RX7, "set", "(II)I"⟩
abbrev cX7_part : ByteArray := prog_1_method_3_code
def yX7_part : MethodName := ⟨RX7, "part", "(III)I"⟩
abbrev cX7_takeAway : ByteArray := prog_1_method_4_code
def yX7_takeAway : MethodName := ⟨RX7, "takeAway", "(I)I"⟩
abbrev cX7_hoop : ByteArray := prog_1_method_5_code
def yX7_hoop : MethodName := ⟨RX7, "hoop", "(I)I"⟩
abbrev cX7_roll : ByteArray := prog_1_method_6_code
def yX7_roll : MethodName := ⟨RX7, "roll", "(I)I"⟩
abbrev cX7_tap : ByteArray := prog_1_method_7_code
def yX7_tap : MethodName := ⟨RX7, "tap", "(I)I"⟩
abbrev cX7_push : ByteArray := prog_1_method_8_code
def yX7_push : MethodName := ⟨RX7, "push", "()I"⟩
abbrev cX7_of : ByteArray := prog_1_method_9_code
def yX7_of : MethodName := ⟨RX7, "of", "(II)I"⟩
abbrev cX7_ofHoop : ByteArray := prog_1_method_10_code
def yX7_ofHoop : MethodName := ⟨RX7, "ofHoop", "(I)I"⟩
abbrev cX7_run : ByteArray := prog_1_method_11_code
def yX7_run : MethodName := ⟨RX7, "run", "(II)I"⟩
abbrev cX7_count : ByteArray := prog_1_method_12_code
def yX7_count : MethodName := ⟨RX7, "count", "(I)I"⟩
abbrev cX7_aboutHoop : ByteArray := prog_1_method_13_code
def yX7_aboutHoop : MethodName := ⟨RX7, "aboutHoop", "(LHoopStairs$Hoop;I)I"⟩
abbrev cX7_ifRolled : ByteArray := prog_1_method_14_code
def yX7_ifRolled : MethodName := ⟨RX7, "ifRolled", "(I)I"⟩
abbrev cX7_widest : ByteArray := prog_1_method_15_code
def yX7_widest : MethodName := ⟨RX7, "widest", "()I"⟩
abbrev cX7_saves : ByteArray := prog_1_method_16_code
def yX7_saves : MethodName := ⟨RX7, "saves", "(I)I"⟩
abbrev cX7_passesAfterTaps : ByteArray := prog_1_method_17_code
def yX7_passesAfterTaps : MethodName := ⟨RX7, "passesAfterTaps", "(II)Z"⟩
abbrev cX7_traced : ByteArray := prog_1_method_18_code
def yX7_traced : MethodName := ⟨RX7, "traced", "(III)I"⟩
abbrev cX7_put : ByteArray := prog_1_method_19_code
def yX7_put : MethodName := ⟨RX7, "put", "(J)I"⟩
abbrev cX7_wipe : ByteArray := prog_1_method_20_code
def yX7_wipe : MethodName := ⟨RX7, "wipe", "()I"⟩
abbrev cX7_fault : ByteArray := prog_1_method_21_code
def yX7_fault : MethodName := ⟨RX7, "fault", "()I"⟩
abbrev cX7_carryOut : ByteArray := prog_1_method_22_code
def yX7_carryOut : MethodName := ⟨RX7, "carryOut", "()I"⟩
abbrev cX7_orderError : ByteArray := prog_1_method_23_code
def yX7_orderError : MethodName := ⟨RX7, "orderError", "(II)I"⟩
abbrev cX7_carryOrder : ByteArray := prog_1_method_24_code
def yX7_carryOrder : MethodName := ⟨RX7, "carryOrder", "(II)I"⟩
abbrev cX7_undo : ByteArray := prog_1_method_25_code
def yX7_undo : MethodName := ⟨RX7, "undo", "()I"⟩
abbrev cX7_save : ByteArray := prog_1_method_26_code
def yX7_save : MethodName := ⟨RX7, "save", "(I)I"⟩
abbrev cX7_restore : ByteArray := prog_1_method_27_code
def yX7_restore : MethodName := ⟨RX7, "restore", "(I)I"⟩
def RX8 : String := "HoopStairsModel"
def TX8 : u_T := fun k => match k with
  | 0 => ("HoopStairsModel", "s", "[I", true)
  | 1 => ("HoopStairsModel", "past", "[I", true)
  | 2 => ("HoopStairsModel", "known", "I", false)
  | 3 => ("HoopStairsModel", "slots", "[I", true)
  | 4 => ("HoopStairsModel", "isSaved", "[Z", true)
  | 5 => ("HoopStairsModel", "pad", "[I", true)
  | 6 => ("HoopStairsModel", "length", "I", false)
  | _ => ("HoopStairsModel", "greatest", "I", false)
def tyX8 : Nat → FieldType := fun k => match k with
  | 0 => .array .int
  | 1 => .array .int
  | 2 => .int
  | 3 => .array .int
  | 4 => .array .boolean
  | 5 => .array .int
  | 6 => .int
  | _ => .int
abbrev wsX80 : List Cond := u_ws RX8 TX8 8
theorem nmX8 : ∀ a, a < 8 → ∀ b, b < 8 → a ≠ b → (TX8 a).2.1 ≠ (TX8 b).2.1 := by decide +kernel
theorem tyX8_ok : ∀ k, k < 8 → parseFieldDescriptor (TX8 k).2.2.1 = some (tyX8 k) := by decide +kernel
abbrev cX8_init : ByteArray := prog_10_method_1_code
def yX8_init : MethodName := ⟨RX8, "<init>", "()V"⟩
abbrev cX8_in : ByteArray := prog_10_method_3_code
def yX8_in : MethodName := ⟨RX8, "in", "(III)Z"⟩
abbrev cX8_less : ByteArray := prog_10_method_4_code
def yX8_less : MethodName := ⟨RX8, "less", "(II)I"⟩
abbrev cX8_size : ByteArray := prog_10_method_5_code
def yX8_size : MethodName := ⟨RX8, "size", "(I)I"⟩
abbrev cX8_at : ByteArray := prog_10_method_6_code
def yX8_at : MethodName := ⟨RX8, "at", "(II)I"⟩
abbrev cX8_isPart : ByteArray := prog_10_method_7_code
def yX8_isPart : MethodName := ⟨RX8, "isPart", "(I)Z"⟩
abbrev cX8_remembers : ByteArray := prog_10_method_8_code
def yX8_remembers : MethodName := ⟨RX8, "remembers", "()V"⟩
abbrev cX8_copies : ByteArray := prog_10_method_9_code
def yX8_copies : MethodName := ⟨RX8, "copies", "()V"⟩
abbrev cX8_drops : ByteArray := prog_10_method_10_code
def yX8_drops : MethodName := ⟨RX8, "drops", "(II)V"⟩
abbrev cX8_lands : ByteArray := prog_10_method_11_code
def yX8_lands : MethodName := ⟨RX8, "lands", "(II)V"⟩
abbrev cX8_passesPart : ByteArray := prog_10_method_12_code
def yX8_passesPart : MethodName := ⟨RX8, "passesPart", "(I)I"⟩
abbrev cX8_lists : ByteArray := prog_10_method_13_code
def yX8_lists : MethodName := ⟨RX8, "lists", "(I)V"⟩
abbrev cX8_ends : ByteArray := prog_10_method_14_code
def yX8_ends : MethodName := ⟨RX8, "ends", "(II)V"⟩
abbrev cX8_rolls : ByteArray := prog_10_method_15_code
def yX8_rolls : MethodName := ⟨RX8, "rolls", "(II)I"⟩
abbrev cX8_begins : ByteArray := prog_10_method_16_code
def yX8_begins : MethodName := ⟨RX8, "begins", "(II)V"⟩
abbrev cX8_taps : ByteArray := prog_10_method_17_code
def yX8_taps : MethodName := ⟨RX8, "taps", "(II)V"⟩
abbrev cX8_isRolling : ByteArray := prog_10_method_18_code
def yX8_isRolling : MethodName := ⟨RX8, "isRolling", "()Z"⟩
abbrev cX8_canSet : ByteArray := prog_10_method_19_code
def yX8_canSet : MethodName := ⟨RX8, "canSet", "(II)Z"⟩
abbrev cX8_set : ByteArray := prog_10_method_20_code
def yX8_set : MethodName := ⟨RX8, "set", "(II)I"⟩
abbrev cX8_whyNotPart : ByteArray := prog_10_method_21_code
def yX8_whyNotPart : MethodName := ⟨RX8, "whyNotPart", "(III)I"⟩
abbrev cX8_comes : ByteArray := prog_10_method_22_code
def yX8_comes : MethodName := ⟨RX8, "comes", "(III)I"⟩
abbrev cX8_part : ByteArray := prog_10_method_23_code
def yX8_part : MethodName := ⟨RX8, "part", "(III)I"⟩
abbrev cX8_takeAway : ByteArray := prog_10_method_24_code
def yX8_takeAway : MethodName := ⟨RX8, "takeAway", "(I)I"⟩
abbrev cX8_hoop : ByteArray := prog_10_method_25_code
def yX8_hoop : MethodName := ⟨RX8, "hoop", "(I)I"⟩
abbrev cX8_whyNotRoll : ByteArray := prog_10_method_26_code
def yX8_whyNotRoll : MethodName := ⟨RX8, "whyNotRoll", "(I)I"⟩
abbrev cX8_roll : ByteArray := prog_10_method_27_code
def yX8_roll : MethodName := ⟨RX8, "roll", "(I)I"⟩
abbrev cX8_tap : ByteArray := prog_10_method_28_code
def yX8_tap : MethodName := ⟨RX8, "tap", "(I)I"⟩
abbrev cX8_pushes : ByteArray := prog_10_method_29_code
def yX8_pushes : MethodName := ⟨RX8, "pushes", "()I"⟩
abbrev cX8_push : ByteArray := prog_10_method_30_code
def yX8_push : MethodName := ⟨RX8, "push", "()I"⟩
abbrev cX8_of : ByteArray := prog_10_method_31_code
def yX8_of : MethodName := ⟨RX8, "of", "(II)I"⟩
abbrev cX8_ofHoop : ByteArray := prog_10_method_32_code
def yX8_ofHoop : MethodName := ⟨RX8, "ofHoop", "(I)I"⟩
abbrev cX8_run : ByteArray := prog_10_method_33_code
def yX8_run : MethodName := ⟨RX8, "run", "(II)I"⟩
abbrev cX8_ofParts : ByteArray := prog_10_method_34_code
def yX8_ofParts : MethodName := ⟨RX8, "ofParts", "(I)I"⟩
abbrev cX8_count : ByteArray := prog_10_method_35_code
def yX8_count : MethodName := ⟨RX8, "count", "(I)I"⟩
abbrev cX8_ifRolled : ByteArray := prog_10_method_36_code
def yX8_ifRolled : MethodName := ⟨RX8, "ifRolled", "(I)I"⟩
abbrev cX8_widest : ByteArray := prog_10_method_37_code
def yX8_widest : MethodName := ⟨RX8, "widest", "()I"⟩
abbrev cX8_saves : ByteArray := prog_10_method_38_code
def yX8_saves : MethodName := ⟨RX8, "saves", "(I)I"⟩
abbrev cX8_traced : ByteArray := prog_10_method_39_code
def yX8_traced : MethodName := ⟨RX8, "traced", "(III)I"⟩
abbrev cX8_put : ByteArray := prog_10_method_40_code
def yX8_put : MethodName := ⟨RX8, "put", "(J)I"⟩
abbrev cX8_wipe : ByteArray := prog_10_method_41_code
def yX8_wipe : MethodName := ⟨RX8, "wipe", "()I"⟩
abbrev cX8_sign : ByteArray := prog_10_method_42_code
def yX8_sign : MethodName := ⟨RX8, "sign", "(I)I"⟩
abbrev cX8_digit : ByteArray := prog_10_method_43_code
def yX8_digit : MethodName := ⟨RX8, "digit", "(I)I"⟩
abbrev cX8_numberEnd : ByteArray := prog_10_method_44_code
def yX8_numberEnd : MethodName := ⟨RX8, "numberEnd", "(I)I"⟩
abbrev cX8_numberAt : ByteArray := prog_10_method_45_code
def yX8_numberAt : MethodName := ⟨RX8, "numberAt", "(I)I"⟩
abbrev cX8_orderEnd : ByteArray := prog_10_method_46_code
def yX8_orderEnd : MethodName := ⟨RX8, "orderEnd", "(I)I"⟩
abbrev cX8_fault : ByteArray := prog_10_method_47_code
def yX8_fault : MethodName := ⟨RX8, "fault", "()I"⟩
abbrev cX8_kindOf : ByteArray := prog_10_method_48_code
def yX8_kindOf : MethodName := ⟨RX8, "kindOf", "(I)I"⟩
abbrev cX8_whyNot : ByteArray := prog_10_method_49_code
def yX8_whyNot : MethodName := ⟨RX8, "whyNot", "(I)I"⟩
abbrev cX8_does : ByteArray := prog_10_method_50_code
def yX8_does : MethodName := ⟨RX8, "does", "(I)V"⟩
abbrev cX8_carryOut : ByteArray := prog_10_method_51_code
def yX8_carryOut : MethodName := ⟨RX8, "carryOut", "()I"⟩
abbrev cX8_undo : ByteArray := prog_10_method_52_code
def yX8_undo : MethodName := ⟨RX8, "undo", "()I"⟩
abbrev cX8_save : ByteArray := prog_10_method_53_code
def yX8_save : MethodName := ⟨RX8, "save", "(I)I"⟩
abbrev cX8_restore : ByteArray := prog_10_method_54_code
def yX8_restore : MethodName := ⟨RX8, "restore", "(I)I"⟩
def RJx8e188 : String := "java/lang/Cloneable"
def TJx8e188 : u_T := fun k => match k with
  | _ => ("", "", "", false)
def tyJx8e188 : Nat → FieldType := fun k => match k with
  | _ => .int
abbrev wsJx8e1880 : List Cond := u_ws RJx8e188 TJx8e188 0
theorem nmJx8e188 : ∀ a, a < 0 → ∀ b, b < 0 → a ≠ b → (TJx8e188 a).2.1 ≠ (TJx8e188 b).2.1 := by decide +kernel
theorem tyJx8e188_ok : ∀ k, k < 0 → parseFieldDescriptor (TJx8e188 k).2.2.1 = some (tyJx8e188 k) := by decide +kernel
def RJ9 : String := "java/lang/Math"
def TJ9 : u_T := fun k => match k with
  | _ => ("", "", "", false)
def tyJ9 : Nat → FieldType := fun k => match k with
  | _ => .int
abbrev wsJ90 : List Cond := u_ws RJ9 TJ9 0
theorem nmJ9 : ∀ a, a < 0 → ∀ b, b < 0 → a ≠ b → (TJ9 a).2.1 ≠ (TJ9 b).2.1 := by decide +kernel
theorem tyJ9_ok : ∀ k, k < 0 → parseFieldDescriptor (TJ9 k).2.2.1 = some (tyJ9 k) := by decide +kernel
abbrev cJ9_abs_0f7a4 : ByteArray := prog_12_method_59_code
def yJ9_abs_0f7a4 : MethodName := ⟨RJ9, "abs", "(I)I"⟩
abbrev cJ9_max_7cf53 : ByteArray := prog_12_method_65_code
def yJ9_max_7cf53 : MethodName := ⟨RJ9, "max", "(II)I"⟩
abbrev cJ9_min_7cf53 : ByteArray := prog_12_method_69_code
def yJ9_min_7cf53 : MethodName := ⟨RJ9, "min", "(II)I"⟩
def RJ10 : String := "java/lang/System"
def TJ10 : u_T := fun k => match k with
  | _ => ("", "", "", false)
def tyJ10 : Nat → FieldType := fun k => match k with
  | _ => .int
abbrev wsJ100 : List Cond := u_ws RJ10 TJ10 0
theorem nmJ10 : ∀ a, a < 0 → ∀ b, b < 0 → a ≠ b → (TJ10 a).2.1 ≠ (TJ10 b).2.1 := by decide +kernel
theorem tyJ10_ok : ∀ k, k < 0 → parseFieldDescriptor (TJ10 k).2.2.1 = some (tyJ10 k) := by decide +kernel
def RL : String := "HoopStairsLaw"
abbrev cL_law : ByteArray := code
def yL_law : MethodName := ⟨RL, "law", "([I)Z"⟩
abbrev vwCl : List vw_C := [(RX0, TX0, 3), (RX1, TX1, 10), (RX2, TX2, 5), (RX3, TX3, 2), (RX4, TX4, 1), (RX5, TX5, 2), (RX6, TX6, 7), (RX7, TX7, 6), (RX8, TX8, 8)]
def Wr0 : List Cond := [Cond.classLink RL 7 RX7, Cond.instantiable RX7 6, Cond.initialized RX7, Cond.classLink RL 10 RX8, Cond.instantiable RX8 8, Cond.initialized RX8, Cond.constantLong RL 77 (4294967295), Cond.methodLink RL 9 yX7_init, Cond.instanceMethod yX7_init, Cond.code yX7_init cX7_init 2 none, Cond.methodLink RX7 1 objectInit, Cond.instanceMethod objectInit, Cond.code objectInit ⟨#[0xb1]⟩ 1 none, Cond.classLink RX7 7 RX6, Cond.instantiable RX6 7, Cond.initialized RX6, Cond.fieldLink RX7 10 "HoopStairs" "now" "LHoopStairs$State;", Cond.classLink RX7 16 RX0, Cond.instantiable RX0 3, Cond.initialized RX0, Cond.fieldLink RX7 19 "HoopStairs" "history" "LHoopStairs$History;", Cond.fieldLink RX7 23 "HoopStairs" "slots" "[LHoopStairs$State;", Cond.arrayClass .boolean, Cond.fieldLink RX7 27 "HoopStairs" "filled" "[Z"]
def Wr1 : List Cond := [Cond.classLink RX7 31 RX2, Cond.instantiable RX2 5, Cond.initialized RX2, Cond.fieldLink RX7 34 "HoopStairs" "pad" "LHoopStairs$Pad;", Cond.classLink RX7 38 RX1, Cond.instantiable RX1 10, Cond.initialized RX1, Cond.fieldLink RX7 41 "HoopStairs" "trial" "LHoopStairs$Hoop;", Cond.methodLink RX7 9 yX6_init, Cond.instanceMethod yX6_init, Cond.code yX6_init cX6_init 1 none, Cond.methodLink RX6 3 objectInit, Cond.classLink RX6 9 RX4, Cond.instantiable RX4 1, Cond.initialized RX4, Cond.fieldLink RX6 12 "HoopStairs$State" "settings" "LHoopStairs$Settings;", Cond.classLink RX6 18 RX5, Cond.instantiable RX5 2, Cond.initialized RX5, Cond.fieldLink RX6 21 "HoopStairs$State" "stair" "LHoopStairs$Stair;", Cond.classLink RX6 25 RX1, Cond.fieldLink RX6 28 "HoopStairs$State" "hoop" "LHoopStairs$Hoop;", Cond.classLink RX6 32 RX3, Cond.instantiable RX3 2]
def Wr2 : List Cond := [Cond.initialized RX3, Cond.fieldLink RX6 35 "HoopStairs$State" "log" "LHoopStairs$RunLog;", Cond.arrayClass .int, Cond.fieldLink RX6 39 "HoopStairs$State" "ended" "[I", Cond.fieldLink RX6 43 "HoopStairs$State" "runs" "I", Cond.fieldLink RX6 47 "HoopStairs$State" "taps" "I", Cond.methodLink RX6 11 yX4_init, Cond.instanceMethod yX4_init, Cond.code yX4_init cX4_init 1 none, Cond.methodLink RX4 1 objectInit, Cond.fieldLink RX4 7 "HoopStairs$Settings" "FIRST" "[I", Cond.methodLink RX4 13 ⟨"[I", "clone", "()Ljava/lang/Object;"⟩, Cond.sameMethod "[I" "java/lang/Object" "clone" "()Ljava/lang/Object;", Cond.native ⟨"java/lang/Object", "clone", "()Ljava/lang/Object;"⟩, Cond.instanceMethod ⟨"java/lang/Object", "clone", "()Ljava/lang/Object;"⟩, Cond.selects "[I" ⟨"[I", "clone", "()Ljava/lang/Object;"⟩ ⟨"java/lang/Object", "clone", "()Ljava/lang/Object;"⟩, Cond.classLink RX4 14 "[I", Cond.fieldLink RX4 18 "HoopStairs$Settings" "values" "[I", Cond.methodLink RX6 20 yX5_init, Cond.instanceMethod yX5_init, Cond.code yX5_init cX5_init 1 none, Cond.methodLink RX5 1 objectInit, Cond.classLink RX5 9 "[[I", Cond.fieldLink RX5 11 "HoopStairs$Stair" "columns" "[[I"]
def Wr3 : List Cond := [Cond.fieldLink RX5 14 "HoopStairs$Stair" "length" "I", Cond.methodLink RX6 27 yX1_init, Cond.instanceMethod yX1_init, Cond.code yX1_init cX1_init 1 none, Cond.methodLink RX1 3 objectInit, Cond.fieldLink RX1 9 "HoopStairs$Hoop" "there" "Z", Cond.methodLink RX6 34 yX3_init, Cond.instanceMethod yX3_init, Cond.code yX3_init cX3_init 1 none, Cond.methodLink RX3 1 objectInit, Cond.classLink RX3 9 "[[I", Cond.fieldLink RX3 11 "HoopStairs$RunLog" "columns" "[[I", Cond.fieldLink RX3 14 "HoopStairs$RunLog" "length" "I", Cond.methodLink RX7 18 yX0_init, Cond.instanceMethod yX0_init, Cond.code yX0_init cX0_init 2 none, Cond.methodLink RX0 1 objectInit, Cond.classLink RX0 9 RX6, Cond.fieldLink RX0 11 "HoopStairs$History" "states" "[LHoopStairs$State;", Cond.fieldLink RX0 16 "HoopStairs$History" "next" "I", Cond.fieldLink RX0 20 "HoopStairs$History" "length" "I", Cond.methodLink RX0 15 yX6_init, Cond.methodLink RX7 33 yX2_init, Cond.instanceMethod yX2_init]
def Wr4 : List Cond := [Cond.code yX2_init cX2_init 1 none, Cond.methodLink RX2 3 objectInit, Cond.fieldLink RX2 11 "HoopStairs$Pad" "codes" "[I", Cond.fieldLink RX2 15 "HoopStairs$Pad" "length" "I", Cond.fieldLink RX2 19 "HoopStairs$Pad" "at" "I", Cond.methodLink RX7 40 yX1_init, Cond.methodLink RL 12 yX8_init, Cond.instanceMethod yX8_init, Cond.code yX8_init cX8_init 1 none, Cond.methodLink RX8 1 objectInit, Cond.fieldLink RX8 7 "HoopStairsModel" "s" "[I", Cond.fieldLink RX8 13 "HoopStairsModel" "past" "[I", Cond.fieldLink RX8 16 "HoopStairsModel" "slots" "[I", Cond.fieldLink RX8 19 "HoopStairsModel" "isSaved" "[Z", Cond.fieldLink RX8 23 "HoopStairsModel" "pad" "[I", Cond.methodLink RL 13 yX7_set, Cond.instanceMethod yX7_set, Cond.selects RX7 yX7_set yX7_set, Cond.code yX7_set cX7_set 3 (some .int), Cond.methodLink RX7 49 yX4_allows, Cond.instanceMethod yX4_allows, Cond.selects RX4 yX4_allows yX4_allows, Cond.code yX4_allows cX4_allows 3 (some .boolean), Cond.fieldLink RX4 27 "HoopStairs$Settings" "LEAST" "[I"]
def Wr5 : List Cond := [Cond.fieldLink RX4 30 "HoopStairs$Settings" "GREATEST" "[I", Cond.methodLink RX7 55 yX0_record, Cond.instanceMethod yX0_record, Cond.selects RX0 yX0_record yX0_record, Cond.code yX0_record cX0_record 2 none, Cond.methodLink RX0 27 Lib.Math.min.name, Cond.static Lib.Math.min.name, Cond.initialized "java/lang/Math", Cond.code Lib.Math.min.name Lib.Math.min.code 2 (some .int), Cond.methodLink RX0 23 yX6_copyFrom, Cond.instanceMethod yX6_copyFrom, Cond.selects RX6 yX6_copyFrom yX6_copyFrom, Cond.code yX6_copyFrom cX6_copyFrom 2 none, Cond.methodLink RX6 63 arraycopyName, Cond.native arraycopyName, Cond.static arraycopyName, Cond.initialized "java/lang/System", Cond.methodLink RX6 50 yX4_copyFrom, Cond.instanceMethod yX4_copyFrom, Cond.selects RX4 yX4_copyFrom yX4_copyFrom, Cond.code yX4_copyFrom cX4_copyFrom 2 none, Cond.methodLink RX4 21 arraycopyName, Cond.methodLink RX6 54 yX5_copyFrom, Cond.instanceMethod yX5_copyFrom]
def Wr6 : List Cond := [Cond.selects RX5 yX5_copyFrom yX5_copyFrom, Cond.code yX5_copyFrom cX5_copyFrom 3 none, Cond.methodLink RX5 18 arraycopyName, Cond.methodLink RX6 57 yX1_copyFrom, Cond.instanceMethod yX1_copyFrom, Cond.selects RX1 yX1_copyFrom yX1_copyFrom, Cond.code yX1_copyFrom cX1_copyFrom 2 none, Cond.fieldLink RX1 15 "HoopStairs$Hoop" "size" "I", Cond.fieldLink RX1 19 "HoopStairs$Hoop" "speed" "I", Cond.fieldLink RX1 22 "HoopStairs$Hoop" "lean" "I", Cond.fieldLink RX1 25 "HoopStairs$Hoop" "wobble" "I", Cond.fieldLink RX1 28 "HoopStairs$Hoop" "place" "I", Cond.fieldLink RX1 31 "HoopStairs$Hoop" "ending" "I", Cond.fieldLink RX1 34 "HoopStairs$Hoop" "taps" "I", Cond.fieldLink RX1 37 "HoopStairs$Hoop" "pushes" "I", Cond.fieldLink RX1 40 "HoopStairs$Hoop" "greatestLean" "I", Cond.methodLink RX6 60 yX3_copyFrom, Cond.instanceMethod yX3_copyFrom, Cond.selects RX3 yX3_copyFrom yX3_copyFrom, Cond.code yX3_copyFrom cX3_copyFrom 3 none, Cond.methodLink RX3 18 arraycopyName, Cond.methodLink RX7 59 yX4_change, Cond.instanceMethod yX4_change, Cond.selects RX4 yX4_change yX4_change]
def Wr7 : List Cond := [Cond.code yX4_change cX4_change 4 (some .int), Cond.methodLink RX4 33 yX4_value, Cond.instanceMethod yX4_value, Cond.selects RX4 yX4_value yX4_value, Cond.code yX4_value cX4_value 2 (some .int), Cond.methodLink RX4 37 yX4_allows, Cond.methodLink RL 17 yX8_set, Cond.instanceMethod yX8_set, Cond.selects RX8 yX8_set yX8_set, Cond.code yX8_set cX8_set 4 (some .int), Cond.methodLink RX8 65 yX8_canSet, Cond.static yX8_canSet, Cond.code yX8_canSet cX8_canSet 2 (some .boolean), Cond.methodLink RX8 26 yX8_in, Cond.static yX8_in, Cond.code yX8_in cX8_in 3 (some .boolean), Cond.methodLink RX8 69 yX8_remembers, Cond.instanceMethod yX8_remembers, Cond.selects RX8 yX8_remembers yX8_remembers, Cond.code yX8_remembers cX8_remembers 2 none, Cond.fieldLink RX8 30 "HoopStairsModel" "known" "I", Cond.methodLink RL 18 yX7_part, Cond.instanceMethod yX7_part, Cond.selects RX7 yX7_part yX7_part]
def Wr8 : List Cond := [Cond.code yX7_part cX7_part 5 (some .int), Cond.methodLink RX7 63 yX6_partError, Cond.instanceMethod yX6_partError, Cond.selects RX6 yX6_partError yX6_partError, Cond.code yX6_partError cX6_partError 4 (some .int), Cond.methodLink RX6 72 yX5_allows, Cond.static yX5_allows, Cond.code yX5_allows cX5_allows 2 (some .boolean), Cond.methodLink RX7 67 yX6_addPart, Cond.instanceMethod yX6_addPart, Cond.selects RX6 yX6_addPart yX6_addPart, Cond.code yX6_addPart cX6_addPart 4 (some .int), Cond.methodLink RX6 76 yX5_insert, Cond.instanceMethod yX5_insert, Cond.selects RX5 yX5_insert yX5_insert, Cond.code yX5_insert cX5_insert 5 none, Cond.methodLink RX6 80 yX1_vanish, Cond.instanceMethod yX1_vanish, Cond.selects RX1 yX1_vanish yX1_vanish, Cond.code yX1_vanish cX1_vanish 1 none, Cond.methodLink RL 22 yX8_part, Cond.instanceMethod yX8_part, Cond.selects RX8 yX8_part yX8_part, Cond.code yX8_part cX8_part 5 (some .int)]
def Wr9 : List Cond := [Cond.methodLink RX8 72 yX8_whyNotPart, Cond.instanceMethod yX8_whyNotPart, Cond.selects RX8 yX8_whyNotPart yX8_whyNotPart, Cond.code yX8_whyNotPart cX8_whyNotPart 5 (some .int), Cond.methodLink RX8 76 yX8_comes, Cond.instanceMethod yX8_comes, Cond.selects RX8 yX8_comes yX8_comes, Cond.code yX8_comes cX8_comes 5 (some .int), Cond.methodLink RX8 42 yX8_at, Cond.static yX8_at, Cond.code yX8_at cX8_at 2 (some .int), Cond.methodLink RL 23 yX7_takeAway, Cond.instanceMethod yX7_takeAway, Cond.selects RX7 yX7_takeAway yX7_takeAway, Cond.code yX7_takeAway cX7_takeAway 2 (some .int), Cond.methodLink RX7 74 yX5_has, Cond.instanceMethod yX5_has, Cond.selects RX5 yX5_has yX5_has, Cond.code yX5_has cX5_has 2 (some .boolean), Cond.methodLink RX7 80 yX6_removePart, Cond.instanceMethod yX6_removePart, Cond.selects RX6 yX6_removePart yX6_removePart, Cond.code yX6_removePart cX6_removePart 2 (some .int), Cond.methodLink RX6 83 yX5_remove]
def Wr10 : List Cond := [Cond.instanceMethod yX5_remove, Cond.selects RX5 yX5_remove yX5_remove, Cond.code yX5_remove cX5_remove 3 none, Cond.methodLink RX5 24 yX5_has, Cond.methodLink RL 27 yX8_takeAway, Cond.instanceMethod yX8_takeAway, Cond.selects RX8 yX8_takeAway yX8_takeAway, Cond.code yX8_takeAway cX8_takeAway 3 (some .int), Cond.methodLink RX8 79 yX8_isPart, Cond.instanceMethod yX8_isPart, Cond.selects RX8 yX8_isPart yX8_isPart, Cond.code yX8_isPart cX8_isPart 2 (some .boolean), Cond.methodLink RL 28 yX7_hoop, Cond.instanceMethod yX7_hoop, Cond.selects RX7 yX7_hoop yX7_hoop, Cond.code yX7_hoop cX7_hoop 2 (some .int), Cond.methodLink RX7 84 yX1_allows, Cond.static yX1_allows, Cond.code yX1_allows cX1_allows 1 (some .boolean), Cond.methodLink RX7 86 yX6_beginRun, Cond.instanceMethod yX6_beginRun, Cond.selects RX6 yX6_beginRun yX6_beginRun, Cond.code yX6_beginRun cX6_beginRun 2 (some .int), Cond.methodLink RX6 87 yX1_begin]
def Wr11 : List Cond := [Cond.instanceMethod yX1_begin, Cond.selects RX1 yX1_begin yX1_begin, Cond.code yX1_begin cX1_begin 2 none, Cond.methodLink RL 31 yX8_hoop, Cond.instanceMethod yX8_hoop, Cond.selects RX8 yX8_hoop yX8_hoop, Cond.code yX8_hoop cX8_hoop 2 (some .int), Cond.methodLink RX8 83 yX8_begins, Cond.instanceMethod yX8_begins, Cond.selects RX8 yX8_begins yX8_begins, Cond.code yX8_begins cX8_begins 3 none, Cond.methodLink RL 32 yX7_roll, Cond.instanceMethod yX7_roll, Cond.selects RX7 yX7_roll yX7_roll, Cond.code yX7_roll cX7_roll 3 (some .int), Cond.methodLink RX7 89 yX6_rollError, Cond.instanceMethod yX6_rollError, Cond.selects RX6 yX6_rollError yX6_rollError, Cond.code yX6_rollError cX6_rollError 2 (some .int), Cond.methodLink RX6 90 yX1_rolls, Cond.instanceMethod yX1_rolls, Cond.selects RX1 yX1_rolls yX1_rolls, Cond.code yX1_rolls cX1_rolls 1 (some .boolean), Cond.methodLink RX7 92 yX6_rollOver]
def Wr12 : List Cond := [Cond.instanceMethod yX6_rollOver, Cond.selects RX6 yX6_rollOver yX6_rollOver, Cond.code yX6_rollOver cX6_rollOver 2 (some .int), Cond.methodLink RX6 94 yX1_rollOver, Cond.instanceMethod yX1_rollOver, Cond.selects RX1 yX1_rollOver yX1_rollOver, Cond.code yX1_rollOver cX1_rollOver 5 none, Cond.methodLink RX1 50 yX1_rolls, Cond.methodLink RX1 54 yX5_has, Cond.methodLink RX1 60 yX5_entry, Cond.instanceMethod yX5_entry, Cond.selects RX5 yX5_entry yX5_entry, Cond.code yX5_entry cX5_entry 3 (some .int), Cond.methodLink RX1 64 yX1_meet, Cond.instanceMethod yX1_meet, Cond.selects RX1 yX1_meet yX1_meet, Cond.code yX1_meet cX1_meet 4 none, Cond.methodLink RX1 68 yX4_value, Cond.methodLink RX1 78 yX1_dropBy, Cond.instanceMethod yX1_dropBy, Cond.selects RX1 yX1_dropBy yX1_dropBy, Cond.code yX1_dropBy cX1_dropBy 3 none, Cond.methodLink RX1 47 yX1_speedUpBy, Cond.instanceMethod yX1_speedUpBy]
def Wr13 : List Cond := [Cond.selects RX1 yX1_speedUpBy yX1_speedUpBy, Cond.code yX1_speedUpBy cX1_speedUpBy 2 none, Cond.methodLink RX1 96 Lib.Math.min.name, Cond.methodLink RX1 43 yX1_shakeBy, Cond.instanceMethod yX1_shakeBy, Cond.selects RX1 yX1_shakeBy yX1_shakeBy, Cond.code yX1_shakeBy cX1_shakeBy 2 none, Cond.methodLink RX1 82 yX1_rollAlong, Cond.instanceMethod yX1_rollAlong, Cond.selects RX1 yX1_rollAlong yX1_rollAlong, Cond.code yX1_rollAlong cX1_rollAlong 4 none, Cond.methodLink RX1 90 Lib.Math.max.name, Cond.static Lib.Math.max.name, Cond.code Lib.Math.max.name Lib.Math.max.code 2 (some .int), Cond.methodLink RX1 93 yX1_rightItselfBy, Cond.instanceMethod yX1_rightItselfBy, Cond.selects RX1 yX1_rightItselfBy yX1_rightItselfBy, Cond.code yX1_rightItselfBy cX1_rightItselfBy 2 none, Cond.methodLink RX1 74 yX1_goBehind, Cond.instanceMethod yX1_goBehind, Cond.selects RX1 yX1_goBehind yX1_goBehind, Cond.code yX1_goBehind cX1_goBehind 4 none, Cond.methodLink RX1 85 Lib.Math.abs.name, Cond.static Lib.Math.abs.name]
def Wr14 : List Cond := [Cond.code Lib.Math.abs.name Lib.Math.abs.code 1 (some .int), Cond.methodLink RX6 98 yX6_noteEnd, Cond.instanceMethod yX6_noteEnd, Cond.selects RX6 yX6_noteEnd yX6_noteEnd, Cond.code yX6_noteEnd cX6_noteEnd 1 none, Cond.methodLink RX6 107 yX5_noteEnd, Cond.instanceMethod yX5_noteEnd, Cond.selects RX5 yX5_noteEnd yX5_noteEnd, Cond.code yX5_noteEnd cX5_noteEnd 3 none, Cond.methodLink RX6 110 yX3_add, Cond.instanceMethod yX3_add, Cond.selects RX3 yX3_add yX3_add, Cond.code yX3_add cX3_add 3 none, Cond.methodLink RX3 42 Lib.Math.min.name, Cond.methodLink RL 35 yX8_roll, Cond.instanceMethod yX8_roll, Cond.selects RX8 yX8_roll yX8_roll, Cond.code yX8_roll cX8_roll 3 (some .int), Cond.methodLink RX8 90 yX8_whyNotRoll, Cond.instanceMethod yX8_whyNotRoll, Cond.selects RX8 yX8_whyNotRoll yX8_whyNotRoll, Cond.code yX8_whyNotRoll cX8_whyNotRoll 2 (some .int), Cond.methodLink RX8 86 yX8_isRolling, Cond.instanceMethod yX8_isRolling]
def Wr15 : List Cond := [Cond.selects RX8 yX8_isRolling yX8_isRolling, Cond.code yX8_isRolling cX8_isRolling 1 (some .boolean), Cond.methodLink RX8 93 yX8_rolls, Cond.instanceMethod yX8_rolls, Cond.selects RX8 yX8_rolls yX8_rolls, Cond.code yX8_rolls cX8_rolls 5 (some .int), Cond.methodLink RX8 59 yX8_passesPart, Cond.instanceMethod yX8_passesPart, Cond.selects RX8 yX8_passesPart yX8_passesPart, Cond.code yX8_passesPart cX8_passesPart 5 (some .int), Cond.fieldLink RX8 52 "HoopStairsModel" "greatest" "I", Cond.methodLink RX8 45 yX8_drops, Cond.instanceMethod yX8_drops, Cond.selects RX8 yX8_drops yX8_drops, Cond.code yX8_drops cX8_drops 4 none, Cond.methodLink RX8 34 yX8_less, Cond.static yX8_less, Cond.code yX8_less cX8_less 2 (some .int), Cond.methodLink RX8 49 yX8_lands, Cond.instanceMethod yX8_lands, Cond.selects RX8 yX8_lands yX8_lands, Cond.code yX8_lands cX8_lands 6 none, Cond.methodLink RX8 38 yX8_size, Cond.static yX8_size]
def Wr16 : List Cond := [Cond.code yX8_size cX8_size 1 (some .int), Cond.methodLink RX8 62 yX8_ends, Cond.instanceMethod yX8_ends, Cond.selects RX8 yX8_ends yX8_ends, Cond.code yX8_ends cX8_ends 3 none, Cond.methodLink RX8 55 yX8_lists, Cond.instanceMethod yX8_lists, Cond.selects RX8 yX8_lists yX8_lists, Cond.code yX8_lists cX8_lists 3 none, Cond.methodLink RL 36 yX7_tap, Cond.instanceMethod yX7_tap, Cond.selects RX7 yX7_tap yX7_tap, Cond.code yX7_tap cX7_tap 3 (some .int), Cond.methodLink RX7 95 yX6_tapError, Cond.instanceMethod yX6_tapError, Cond.selects RX6 yX6_tapError yX6_tapError, Cond.code yX6_tapError cX6_tapError 2 (some .int), Cond.methodLink RX7 98 yX6_tapFrom, Cond.instanceMethod yX6_tapFrom, Cond.selects RX6 yX6_tapFrom yX6_tapFrom, Cond.code yX6_tapFrom cX6_tapFrom 2 (some .int), Cond.methodLink RX6 113 yX4_value, Cond.methodLink RX6 117 yX1_takeTap, Cond.instanceMethod yX1_takeTap]
def Wr17 : List Cond := [Cond.selects RX1 yX1_takeTap yX1_takeTap, Cond.code yX1_takeTap cX1_takeTap 3 none, Cond.methodLink RL 39 yX8_tap, Cond.instanceMethod yX8_tap, Cond.selects RX8 yX8_tap yX8_tap, Cond.code yX8_tap cX8_tap 2 (some .int), Cond.methodLink RX8 96 yX8_taps, Cond.instanceMethod yX8_taps, Cond.selects RX8 yX8_taps yX8_taps, Cond.code yX8_taps cX8_taps 3 none, Cond.methodLink RL 40 yX7_push, Cond.instanceMethod yX7_push, Cond.selects RX7 yX7_push yX7_push, Cond.code yX7_push cX7_push 2 (some .int), Cond.methodLink RX7 101 yX6_pushError, Cond.instanceMethod yX6_pushError, Cond.selects RX6 yX6_pushError yX6_pushError, Cond.code yX6_pushError cX6_pushError 1 (some .int), Cond.methodLink RX7 105 yX6_pushOn, Cond.instanceMethod yX6_pushOn, Cond.selects RX6 yX6_pushOn yX6_pushOn, Cond.code yX6_pushOn cX6_pushOn 1 (some .int), Cond.methodLink RX6 123 yX1_takePush, Cond.instanceMethod yX1_takePush]
def Wr18 : List Cond := [Cond.selects RX1 yX1_takePush yX1_takePush, Cond.code yX1_takePush cX1_takePush 1 none, Cond.methodLink RL 44 yX8_push, Cond.instanceMethod yX8_push, Cond.selects RX8 yX8_push yX8_push, Cond.code yX8_push cX8_push 1 (some .int), Cond.methodLink RX8 99 yX8_pushes, Cond.instanceMethod yX8_pushes, Cond.selects RX8 yX8_pushes yX8_pushes, Cond.code yX8_pushes cX8_pushes 1 (some .int), Cond.methodLink RL 45 yX7_of, Cond.instanceMethod yX7_of, Cond.selects RX7 yX7_of yX7_of, Cond.code yX7_of cX7_of 3 (some .int), Cond.methodLink RX7 108 yX5_entry, Cond.methodLink RL 48 yX8_of, Cond.instanceMethod yX8_of, Cond.selects RX8 yX8_of yX8_of, Cond.code yX8_of cX8_of 3 (some .int), Cond.methodLink RL 49 yX7_ofHoop, Cond.instanceMethod yX7_ofHoop, Cond.selects RX7 yX7_ofHoop yX7_ofHoop, Cond.code yX7_ofHoop cX7_ofHoop 2 (some .int), Cond.methodLink RX7 118 yX7_aboutHoop]
def Wr19 : List Cond := [Cond.static yX7_aboutHoop, Cond.code yX7_aboutHoop cX7_aboutHoop 2 (some .int), Cond.methodLink RL 52 yX8_ofHoop, Cond.instanceMethod yX8_ofHoop, Cond.selects RX8 yX8_ofHoop yX8_ofHoop, Cond.code yX8_ofHoop cX8_ofHoop 2 (some .int), Cond.methodLink RL 53 yX7_run, Cond.instanceMethod yX7_run, Cond.selects RX7 yX7_run yX7_run, Cond.code yX7_run cX7_run 3 (some .int), Cond.methodLink RX7 126 yX3_has, Cond.instanceMethod yX3_has, Cond.selects RX3 yX3_has yX3_has, Cond.code yX3_has cX3_has 2 (some .boolean), Cond.methodLink RX7 129 yX3_entry, Cond.instanceMethod yX3_entry, Cond.selects RX3 yX3_entry yX3_entry, Cond.code yX3_entry cX3_entry 3 (some .int), Cond.methodLink RX3 24 yX3_has, Cond.methodLink RL 56 yX8_run, Cond.instanceMethod yX8_run, Cond.selects RX8 yX8_run yX8_run, Cond.code yX8_run cX8_run 3 (some .int), Cond.methodLink RL 57 yX7_count]
def Wr20 : List Cond := [Cond.instanceMethod yX7_count, Cond.selects RX7 yX7_count yX7_count, Cond.code yX7_count cX7_count 2 (some .int), Cond.methodLink RX7 135 yX4_value, Cond.methodLink RX7 138 yX6_number, Cond.instanceMethod yX6_number, Cond.selects RX6 yX6_number yX6_number, Cond.code yX6_number cX6_number 2 (some .int), Cond.methodLink RX6 129 yX5_narrowestGate, Cond.instanceMethod yX5_narrowestGate, Cond.selects RX5 yX5_narrowestGate yX5_narrowestGate, Cond.code yX5_narrowestGate cX5_narrowestGate 4 (some .int), Cond.methodLink RX5 30 yX5_entry, Cond.methodLink RX6 133 yX5_sumOf, Cond.instanceMethod yX5_sumOf, Cond.selects RX5 yX5_sumOf yX5_sumOf, Cond.code yX5_sumOf cX5_sumOf 4 (some .int), Cond.methodLink RL 60 yX8_count, Cond.instanceMethod yX8_count, Cond.selects RX8 yX8_count yX8_count, Cond.code yX8_count cX8_count 2 (some .int), Cond.fieldLink RX8 106 "HoopStairsModel" "length" "I", Cond.methodLink RX8 103 yX8_ofParts, Cond.instanceMethod yX8_ofParts]
def Wr21 : List Cond := [Cond.selects RX8 yX8_ofParts yX8_ofParts, Cond.code yX8_ofParts cX8_ofParts 7 (some .int), Cond.methodLink RL 61 yX7_ifRolled, Cond.instanceMethod yX7_ifRolled, Cond.selects RX7 yX7_ifRolled yX7_ifRolled, Cond.code yX7_ifRolled cX7_ifRolled 2 (some .int), Cond.methodLink RX7 165 yX1_rolls, Cond.methodLink RX7 169 yX1_copyFrom, Cond.methodLink RX7 176 yX1_rollOver, Cond.methodLink RL 64 yX8_ifRolled, Cond.instanceMethod yX8_ifRolled, Cond.selects RX8 yX8_ifRolled yX8_ifRolled, Cond.code yX8_ifRolled cX8_ifRolled 3 (some .int), Cond.methodLink RX8 109 yX8_copies, Cond.instanceMethod yX8_copies, Cond.selects RX8 yX8_copies yX8_copies, Cond.code yX8_copies cX8_copies 2 none, Cond.methodLink RL 65 yX7_widest, Cond.instanceMethod yX7_widest, Cond.selects RX7 yX7_widest yX7_widest, Cond.code yX7_widest cX7_widest 2 (some .int), Cond.methodLink RX7 179 yX1_begin, Cond.methodLink RL 68 yX8_widest, Cond.instanceMethod yX8_widest]
def Wr22 : List Cond := [Cond.selects RX8 yX8_widest yX8_widest, Cond.code yX8_widest cX8_widest 2 (some .int), Cond.methodLink RL 69 yX7_saves, Cond.instanceMethod yX7_saves, Cond.selects RX7 yX7_saves yX7_saves, Cond.code yX7_saves cX7_saves 4 (some .int), Cond.methodLink RX7 183 yX7_passesAfterTaps, Cond.instanceMethod yX7_passesAfterTaps, Cond.selects RX7 yX7_passesAfterTaps yX7_passesAfterTaps, Cond.code yX7_passesAfterTaps cX7_passesAfterTaps 4 (some .boolean), Cond.methodLink RX7 186 yX1_takeTap, Cond.methodLink RL 72 yX8_saves, Cond.instanceMethod yX8_saves, Cond.selects RX8 yX8_saves yX8_saves, Cond.code yX8_saves cX8_saves 4 (some .int), Cond.methodLink RL 73 yX7_traced, Cond.instanceMethod yX7_traced, Cond.selects RX7 yX7_traced yX7_traced, Cond.code yX7_traced cX7_traced 4 (some .int), Cond.methodLink RL 76 yX8_traced, Cond.instanceMethod yX8_traced, Cond.selects RX8 yX8_traced yX8_traced, Cond.code yX8_traced cX8_traced 5 (some .int), Cond.methodLink RL 79 yX7_put]
def Wr23 : List Cond := [Cond.instanceMethod yX7_put, Cond.selects RX7 yX7_put yX7_put, Cond.code yX7_put cX7_put 4 (some .int), Cond.methodLink RX7 190 yX2_charactersIn, Cond.static yX2_charactersIn, Cond.code yX2_charactersIn cX2_charactersIn 5 (some .int), Cond.methodLink RX2 24 yX2_codeIn, Cond.static yX2_codeIn, Cond.code yX2_codeIn cX2_codeIn 3 (some .int), Cond.constantLong RX2 22 (255), Cond.methodLink RX7 194 yX2_append, Cond.instanceMethod yX2_append, Cond.selects RX2 yX2_append yX2_append, Cond.code yX2_append cX2_append 5 (some .int), Cond.methodLink RL 83 yX8_put, Cond.instanceMethod yX8_put, Cond.selects RX8 yX8_put yX8_put, Cond.code yX8_put cX8_put 8 (some .int), Cond.constantLong RX8 112 (255), Cond.methodLink RL 84 yX7_wipe, Cond.instanceMethod yX7_wipe, Cond.selects RX7 yX7_wipe yX7_wipe, Cond.code yX7_wipe cX7_wipe 1 (some .int), Cond.methodLink RX7 198 yX2_empty]
def Wr24 : List Cond := [Cond.instanceMethod yX2_empty, Cond.selects RX2 yX2_empty yX2_empty, Cond.code yX2_empty cX2_empty 2 (some .int), Cond.methodLink RL 87 yX8_wipe, Cond.instanceMethod yX8_wipe, Cond.selects RX8 yX8_wipe yX8_wipe, Cond.code yX8_wipe cX8_wipe 2 (some .int), Cond.methodLink RL 88 yX7_fault, Cond.instanceMethod yX7_fault, Cond.selects RX7 yX7_fault yX7_fault, Cond.code yX7_fault cX7_fault 1 (some .int), Cond.methodLink RX7 201 yX2_firstFault, Cond.instanceMethod yX2_firstFault, Cond.selects RX2 yX2_firstFault yX2_firstFault, Cond.code yX2_firstFault cX2_firstFault 2 (some .int), Cond.methodLink RX2 28 yX2_startReading, Cond.instanceMethod yX2_startReading, Cond.selects RX2 yX2_startReading yX2_startReading, Cond.code yX2_startReading cX2_startReading 1 none, Cond.methodLink RX2 31 yX2_readOrder, Cond.instanceMethod yX2_readOrder, Cond.selects RX2 yX2_readOrder yX2_readOrder, Cond.code yX2_readOrder cX2_readOrder 1 (some .boolean), Cond.fieldLink RX2 42 "HoopStairs$Pad" "letter" "I"]
def Wr25 : List Cond := [Cond.fieldLink RX2 45 "HoopStairs$Pad" "number" "I", Cond.methodLink RX2 38 yX2_codeHere, Cond.instanceMethod yX2_codeHere, Cond.selects RX2 yX2_codeHere yX2_codeHere, Cond.code yX2_codeHere cX2_codeHere 1 (some .int), Cond.methodLink RX2 48 yX2_readDigit, Cond.instanceMethod yX2_readDigit, Cond.selects RX2 yX2_readDigit yX2_readDigit, Cond.code yX2_readDigit cX2_readDigit 1 (some .boolean), Cond.methodLink RX2 54 yX2_isDigit, Cond.static yX2_isDigit, Cond.code yX2_isDigit cX2_isDigit 1 (some .boolean), Cond.methodLink RX2 51 yX2_readNumber, Cond.instanceMethod yX2_readNumber, Cond.selects RX2 yX2_readNumber yX2_readNumber, Cond.code yX2_readNumber cX2_readNumber 1 (some .boolean), Cond.methodLink RX2 35 yX2_skipSeparator, Cond.instanceMethod yX2_skipSeparator, Cond.selects RX2 yX2_skipSeparator yX2_skipSeparator, Cond.code yX2_skipSeparator cX2_skipSeparator 1 (some .boolean), Cond.methodLink RL 91 yX8_fault, Cond.instanceMethod yX8_fault, Cond.selects RX8 yX8_fault yX8_fault, Cond.code yX8_fault cX8_fault 4 (some .int)]
def Wr26 : List Cond := [Cond.methodLink RX8 123 yX8_orderEnd, Cond.instanceMethod yX8_orderEnd, Cond.selects RX8 yX8_orderEnd yX8_orderEnd, Cond.code yX8_orderEnd cX8_orderEnd 2 (some .int), Cond.methodLink RX8 114 yX8_sign, Cond.instanceMethod yX8_sign, Cond.selects RX8 yX8_sign yX8_sign, Cond.code yX8_sign cX8_sign 2 (some .int), Cond.methodLink RX8 117 yX8_digit, Cond.instanceMethod yX8_digit, Cond.selects RX8 yX8_digit yX8_digit, Cond.code yX8_digit cX8_digit 2 (some .int), Cond.methodLink RX8 120 yX8_numberEnd, Cond.instanceMethod yX8_numberEnd, Cond.selects RX8 yX8_numberEnd yX8_numberEnd, Cond.code yX8_numberEnd cX8_numberEnd 2 (some .int), Cond.methodLink RL 92 yX7_carryOut, Cond.instanceMethod yX7_carryOut, Cond.selects RX7 yX7_carryOut yX7_carryOut, Cond.code yX7_carryOut cX7_carryOut 3 (some .int), Cond.methodLink RX7 204 yX2_startReading, Cond.methodLink RX7 207 yX2_readOrder, Cond.methodLink RX7 215 yX7_orderError, Cond.instanceMethod yX7_orderError]
def Wr27 : List Cond := [Cond.selects RX7 yX7_orderError yX7_orderError, Cond.code yX7_orderError cX7_orderError 3 (some .int), Cond.methodLink RX7 218 yX7_carryOrder, Cond.instanceMethod yX7_carryOrder, Cond.selects RX7 yX7_carryOrder yX7_carryOrder, Cond.code yX7_carryOrder cX7_carryOrder 3 (some .int), Cond.methodLink RX7 221 yX2_skipSeparator, Cond.methodLink RL 95 yX8_carryOut, Cond.instanceMethod yX8_carryOut, Cond.selects RX8 yX8_carryOut yX8_carryOut, Cond.code yX8_carryOut cX8_carryOut 3 (some .int), Cond.methodLink RX8 132 yX8_fault, Cond.methodLink RX8 135 yX8_whyNot, Cond.instanceMethod yX8_whyNot, Cond.selects RX8 yX8_whyNot yX8_whyNot, Cond.code yX8_whyNot cX8_whyNot 3 (some .int), Cond.methodLink RX8 126 yX8_numberAt, Cond.instanceMethod yX8_numberAt, Cond.selects RX8 yX8_numberAt yX8_numberAt, Cond.code yX8_numberAt cX8_numberAt 2 (some .int), Cond.methodLink RX8 129 yX8_kindOf, Cond.static yX8_kindOf, Cond.code yX8_kindOf cX8_kindOf 1 (some .int), Cond.methodLink RX8 138 yX8_does]
def Wr28 : List Cond := [Cond.instanceMethod yX8_does, Cond.selects RX8 yX8_does yX8_does, Cond.code yX8_does cX8_does 4 none, Cond.methodLink RL 96 yX7_undo, Cond.instanceMethod yX7_undo, Cond.selects RX7 yX7_undo yX7_undo, Cond.code yX7_undo cX7_undo 1 (some .int), Cond.methodLink RX7 225 yX0_stepBack, Cond.instanceMethod yX0_stepBack, Cond.selects RX0 yX0_stepBack yX0_stepBack, Cond.code yX0_stepBack cX0_stepBack 2 (some .int), Cond.methodLink RL 99 yX8_undo, Cond.instanceMethod yX8_undo, Cond.selects RX8 yX8_undo yX8_undo, Cond.code yX8_undo cX8_undo 2 (some .int), Cond.methodLink RL 100 yX7_save, Cond.instanceMethod yX7_save, Cond.selects RX7 yX7_save yX7_save, Cond.code yX7_save cX7_save 2 (some .int), Cond.methodLink RX7 229 yX6_copyFrom, Cond.methodLink RL 103 yX8_save, Cond.instanceMethod yX8_save, Cond.selects RX8 yX8_save yX8_save, Cond.code yX8_save cX8_save 3 (some .int)]
def Wr29 : List Cond := [Cond.methodLink RL 104 yX7_restore, Cond.instanceMethod yX7_restore, Cond.selects RX7 yX7_restore yX7_restore, Cond.code yX7_restore cX7_restore 2 (some .int), Cond.methodLink RL 107 yX8_restore, Cond.instanceMethod yX8_restore, Cond.selects RX8 yX8_restore yX8_restore, Cond.code yX8_restore cX8_restore 3 (some .int)]
def Wall : List Cond := Wr0 ++ (Wr1 ++ (Wr2 ++ (Wr3 ++ (Wr4 ++ (Wr5 ++ (Wr6 ++ (Wr7 ++ (Wr8 ++ (Wr9 ++ (Wr10 ++ (Wr11 ++ (Wr12 ++ (Wr13 ++ (Wr14 ++ (Wr15 ++ (Wr16 ++ (Wr17 ++ (Wr18 ++ (Wr19 ++ (Wr20 ++ (Wr21 ++ (Wr22 ++ (Wr23 ++ (Wr24 ++ (Wr25 ++ (Wr26 ++ (Wr27 ++ (Wr28 ++ (Wr29 ++ (wsX00 ++ (wsX10 ++ (wsX20 ++ (wsX30 ++ (wsX40 ++ (wsX50 ++ (wsX60 ++ (wsX70 ++ (wsX80))))))))))))))))))))))))))))))))))))))
theorem Wi_Wr0 : ∀ w ∈ Wr0, w ∈ Wall := fun _ h => List.mem_append_left _ h
theorem Wi_Wr1 : ∀ w ∈ Wr1, w ∈ Wall := fun _ h => List.mem_append_right _ (List.mem_append_left _ h)
theorem Wi_Wr2 : ∀ w ∈ Wr2, w ∈ Wall := fun _ h => List.mem_append_right _ (List.mem_append_right _ (List.mem_append_left _ h))
theorem Wi_Wr3 : ∀ w ∈ Wr3, w ∈ Wall := fun _ h => List.mem_append_right _ (List.mem_append_right _ (List.mem_append_right _ (List.mem_append_left _ h)))
theorem Wi_Wr4 : ∀ w ∈ Wr4, w ∈ Wall := fun _ h => List.mem_append_right _ (List.mem_append_right _ (List.mem_append_right _ (List.mem_append_right _ (List.mem_append_left _ h))))
theorem Wi_Wr5 : ∀ w ∈ Wr5, w ∈ Wall := fun _ h => List.mem_append_right _ (List.mem_append_right _ (List.mem_append_right _ (List.mem_append_right _ (List.mem_append_right _ (List.mem_append_left _ h)))))
theorem Wi_Wr6 : ∀ w ∈ Wr6, w ∈ Wall := fun _ h => List.mem_append_right _ (List.mem_append_right _ (List.mem_append_right _ (List.mem_append_right _ (List.mem_append_right _ (List.mem_append_right _ (List.mem_append_left _ h))))))
theorem Wi_Wr7 : ∀ w ∈ Wr7, w ∈ Wall := fun _ h => List.mem_append_right _ (List.mem_append_right _ (List.mem_append_right _ (List.mem_append_right _ (List.mem_append_right _ (List.mem_append_right _ (List.mem_append_right _ (List.mem_append_left _ h)))))))
theorem Wi_Wr8 : ∀ w ∈ Wr8, w ∈ Wall := fun _ h => List.mem_append_right _ (List.mem_append_right _ (List.mem_append_right _ (List.mem_append_right _ (List.mem_append_right _ (List.mem_append_right _ (List.mem_append_right _ (List.mem_append_right _ (List.mem_append_left _ h))))))))
theorem Wi_Wr9 : ∀ w ∈ Wr9, w ∈ Wall := fun _ h => List.mem_append_right _ (List.mem_append_right _ (List.mem_append_right _ (List.mem_append_right _ (List.mem_append_right _ (List.mem_append_right _ (List.mem_append_right _ (List.mem_append_right _ (List.mem_append_right _ (List.mem_append_left _ h)))))))))
theorem Wi_Wr10 : ∀ w ∈ Wr10, w ∈ Wall := fun _ h => List.mem_append_right _ (List.mem_append_right _ (List.mem_append_right _ (List.mem_append_right _ (List.mem_append_right _ (List.mem_append_right _ (List.mem_append_right _ (List.mem_append_right _ (List.mem_append_right _ (List.mem_append_right _ (List.mem_append_left _ h))))))))))
theorem Wi_Wr11 : ∀ w ∈ Wr11, w ∈ Wall := fun _ h => List.mem_append_right _ (List.mem_append_right _ (List.mem_append_right _ (List.mem_append_right _ (List.mem_append_right _ (List.mem_append_right _ (List.mem_append_right _ (List.mem_append_right _ (List.mem_append_right _ (List.mem_append_right _ (List.mem_append_right _ (List.mem_append_left _ h)))))))))))
theorem Wi_Wr12 : ∀ w ∈ Wr12, w ∈ Wall := fun _ h => List.mem_append_right _ (List.mem_append_right _ (List.mem_append_right _ (List.mem_append_right _ (List.mem_append_right _ (List.mem_append_right _ (List.mem_append_right _ (List.mem_append_right _ (List.mem_append_right _ (List.mem_append_right _ (List.mem_append_right _ (List.mem_append_right _ (List.mem_append_left _ h))))))))))))
theorem Wi_Wr13 : ∀ w ∈ Wr13, w ∈ Wall := fun _ h => List.mem_append_right _ (List.mem_append_right _ (List.mem_append_right _ (List.mem_append_right _ (List.mem_append_right _ (List.mem_append_right _ (List.mem_append_right _ (List.mem_append_right _ (List.mem_append_right _ (List.mem_append_right _ (List.mem_append_right _ (List.mem_append_right _ (List.mem_append_right _ (List.mem_append_left _ h)))))))))))))
theorem Wi_Wr14 : ∀ w ∈ Wr14, w ∈ Wall := fun _ h => List.mem_append_right _ (List.mem_append_right _ (List.mem_append_right _ (List.mem_append_right _ (List.mem_append_right _ (List.mem_append_right _ (List.mem_append_right _ (List.mem_append_right _ (List.mem_append_right _ (List.mem_append_right _ (List.mem_append_right _ (List.mem_append_right _ (List.mem_append_right _ (List.mem_append_right _ (List.mem_append_left _ h))))))))))))))
theorem Wi_Wr15 : ∀ w ∈ Wr15, w ∈ Wall := fun _ h => List.mem_append_right _ (List.mem_append_right _ (List.mem_append_right _ (List.mem_append_right _ (List.mem_append_right _ (List.mem_append_right _ (List.mem_append_right _ (List.mem_append_right _ (List.mem_append_right _ (List.mem_append_right _ (List.mem_append_right _ (List.mem_append_right _ (List.mem_append_right _ (List.mem_append_right _ (List.mem_append_right _ (List.mem_append_left _ h)))))))))))))))
theorem Wi_Wr16 : ∀ w ∈ Wr16, w ∈ Wall := fun _ h => List.mem_append_right _ (List.mem_append_right _ (List.mem_append_right _ (List.mem_append_right _ (List.mem_append_right _ (List.mem_append_right _ (List.mem_append_right _ (List.mem_append_right _ (List.mem_append_right _ (List.mem_append_right _ (List.mem_append_right _ (List.mem_append_right _ (List.mem_append_right _ (List.mem_append_right _ (List.mem_append_right _ (List.mem_append_right _ (List.mem_append_left _ h))))))))))))))))
theorem Wi_Wr17 : ∀ w ∈ Wr17, w ∈ Wall := fun _ h => List.mem_append_right _ (List.mem_append_right _ (List.mem_append_right _ (List.mem_append_right _ (List.mem_append_right _ (List.mem_append_right _ (List.mem_append_right _ (List.mem_append_right _ (List.mem_append_right _ (List.mem_append_right _ (List.mem_append_right _ (List.mem_append_right _ (List.mem_append_right _ (List.mem_append_right _ (List.mem_append_right _ (List.mem_append_right _ (List.mem_append_right _ (List.mem_append_left _ h)))))))))))))))))
theorem Wi_Wr18 : ∀ w ∈ Wr18, w ∈ Wall := fun _ h => List.mem_append_right _ (List.mem_append_right _ (List.mem_append_right _ (List.mem_append_right _ (List.mem_append_right _ (List.mem_append_right _ (List.mem_append_right _ (List.mem_append_right _ (List.mem_append_right _ (List.mem_append_right _ (List.mem_append_right _ (List.mem_append_right _ (List.mem_append_right _ (List.mem_append_right _ (List.mem_append_right _ (List.mem_append_right _ (List.mem_append_right _ (List.mem_append_right _ (List.mem_append_left _ h))))))))))))))))))
theorem Wi_Wr19 : ∀ w ∈ Wr19, w ∈ Wall := fun _ h => List.mem_append_right _ (List.mem_append_right _ (List.mem_append_right _ (List.mem_append_right _ (List.mem_append_right _ (List.mem_append_right _ (List.mem_append_right _ (List.mem_append_right _ (List.mem_append_right _ (List.mem_append_right _ (List.mem_append_right _ (List.mem_append_right _ (List.mem_append_right _ (List.mem_append_right _ (List.mem_append_right _ (List.mem_append_right _ (List.mem_append_right _ (List.mem_append_right _ (List.mem_append_right _ (List.mem_append_left _ h)))))))))))))))))))
theorem Wi_Wr20 : ∀ w ∈ Wr20, w ∈ Wall := fun _ h => List.mem_append_right _ (List.mem_append_right _ (List.mem_append_right _ (List.mem_append_right _ (List.mem_append_right _ (List.mem_append_right _ (List.mem_append_right _ (List.mem_append_right _ (List.mem_append_right _ (List.mem_append_right _ (List.mem_append_right _ (List.mem_append_right _ (List.mem_append_right _ (List.mem_append_right _ (List.mem_append_right _ (List.mem_append_right _ (List.mem_append_right _ (List.mem_append_right _ (List.mem_append_right _ (List.mem_append_right _ (List.mem_append_left _ h))))))))))))))))))))
theorem Wi_Wr21 : ∀ w ∈ Wr21, w ∈ Wall := fun _ h => List.mem_append_right _ (List.mem_append_right _ (List.mem_append_right _ (List.mem_append_right _ (List.mem_append_right _ (List.mem_append_right _ (List.mem_append_right _ (List.mem_append_right _ (List.mem_append_right _ (List.mem_append_right _ (List.mem_append_right _ (List.mem_append_right _ (List.mem_append_right _ (List.mem_append_right _ (List.mem_append_right _ (List.mem_append_right _ (List.mem_append_right _ (List.mem_append_right _ (List.mem_append_right _ (List.mem_append_right _ (List.mem_append_right _ (List.mem_append_left _ h)))))))))))))))))))))
theorem Wi_Wr22 : ∀ w ∈ Wr22, w ∈ Wall := fun _ h => List.mem_append_right _ (List.mem_append_right _ (List.mem_append_right _ (List.mem_append_right _ (List.mem_append_right _ (List.mem_append_right _ (List.mem_append_right _ (List.mem_append_right _ (List.mem_append_right _ (List.mem_append_right _ (List.mem_append_right _ (List.mem_append_right _ (List.mem_append_right _ (List.mem_append_right _ (List.mem_append_right _ (List.mem_append_right _ (List.mem_append_right _ (List.mem_append_right _ (List.mem_append_right _ (List.mem_append_right _ (List.mem_append_right _ (List.mem_append_right _ (List.mem_append_left _ h))))))))))))))))))))))
theorem Wi_Wr23 : ∀ w ∈ Wr23, w ∈ Wall := fun _ h => List.mem_append_right _ (List.mem_append_right _ (List.mem_append_right _ (List.mem_append_right _ (List.mem_append_right _ (List.mem_append_right _ (List.mem_append_right _ (List.mem_append_right _ (List.mem_append_right _ (List.mem_append_right _ (List.mem_append_right _ (List.mem_append_right _ (List.mem_append_right _ (List.mem_append_right _ (List.mem_append_right _ (List.mem_append_right _ (List.mem_append_right _ (List.mem_append_right _ (List.mem_append_right _ (List.mem_append_right _ (List.mem_append_right _ (List.mem_append_right _ (List.mem_append_right _ (List.mem_append_left _ h)))))))))))))))))))))))
theorem Wi_Wr24 : ∀ w ∈ Wr24, w ∈ Wall := fun _ h => List.mem_append_right _ (List.mem_append_right _ (List.mem_append_right _ (List.mem_append_right _ (List.mem_append_right _ (List.mem_append_right _ (List.mem_append_right _ (List.mem_append_right _ (List.mem_append_right _ (List.mem_append_right _ (List.mem_append_right _ (List.mem_append_right _ (List.mem_append_right _ (List.mem_append_right _ (List.mem_append_right _ (List.mem_append_right _ (List.mem_append_right _ (List.mem_append_right _ (List.mem_append_right _ (List.mem_append_right _ (List.mem_append_right _ (List.mem_append_right _ (List.mem_append_right _ (List.mem_append_right _ (List.mem_append_left _ h))))))))))))))))))))))))
theorem Wi_Wr25 : ∀ w ∈ Wr25, w ∈ Wall := fun _ h => List.mem_append_right _ (List.mem_append_right _ (List.mem_append_right _ (List.mem_append_right _ (List.mem_append_right _ (List.mem_append_right _ (List.mem_append_right _ (List.mem_append_right _ (List.mem_append_right _ (List.mem_append_right _ (List.mem_append_right _ (List.mem_append_right _ (List.mem_append_right _ (List.mem_append_right _ (List.mem_append_right _ (List.mem_append_right _ (List.mem_append_right _ (List.mem_append_right _ (List.mem_append_right _ (List.mem_append_right _ (List.mem_append_right _ (List.mem_append_right _ (List.mem_append_right _ (List.mem_append_right _ (List.mem_append_right _ (List.mem_append_left _ h)))))))))))))))))))))))))
theorem Wi_Wr26 : ∀ w ∈ Wr26, w ∈ Wall := fun _ h => List.mem_append_right _ (List.mem_append_right _ (List.mem_append_right _ (List.mem_append_right _ (List.mem_append_right _ (List.mem_append_right _ (List.mem_append_right _ (List.mem_append_right _ (List.mem_append_right _ (List.mem_append_right _ (List.mem_append_right _ (List.mem_append_right _ (List.mem_append_right _ (List.mem_append_right _ (List.mem_append_right _ (List.mem_append_right _ (List.mem_append_right _ (List.mem_append_right _ (List.mem_append_right _ (List.mem_append_right _ (List.mem_append_right _ (List.mem_append_right _ (List.mem_append_right _ (List.mem_append_right _ (List.mem_append_right _ (List.mem_append_right _ (List.mem_append_left _ h))))))))))))))))))))))))))
theorem Wi_Wr27 : ∀ w ∈ Wr27, w ∈ Wall := fun _ h => List.mem_append_right _ (List.mem_append_right _ (List.mem_append_right _ (List.mem_append_right _ (List.mem_append_right _ (List.mem_append_right _ (List.mem_append_right _ (List.mem_append_right _ (List.mem_append_right _ (List.mem_append_right _ (List.mem_append_right _ (List.mem_append_right _ (List.mem_append_right _ (List.mem_append_right _ (List.mem_append_right _ (List.mem_append_right _ (List.mem_append_right _ (List.mem_append_right _ (List.mem_append_right _ (List.mem_append_right _ (List.mem_append_right _ (List.mem_append_right _ (List.mem_append_right _ (List.mem_append_right _ (List.mem_append_right _ (List.mem_append_right _ (List.mem_append_right _ (List.mem_append_left _ h)))))))))))))))))))))))))))
theorem Wi_Wr28 : ∀ w ∈ Wr28, w ∈ Wall := fun _ h => List.mem_append_right _ (List.mem_append_right _ (List.mem_append_right _ (List.mem_append_right _ (List.mem_append_right _ (List.mem_append_right _ (List.mem_append_right _ (List.mem_append_right _ (List.mem_append_right _ (List.mem_append_right _ (List.mem_append_right _ (List.mem_append_right _ (List.mem_append_right _ (List.mem_append_right _ (List.mem_append_right _ (List.mem_append_right _ (List.mem_append_right _ (List.mem_append_right _ (List.mem_append_right _ (List.mem_append_right _ (List.mem_append_right _ (List.mem_append_right _ (List.mem_append_right _ (List.mem_append_right _ (List.mem_append_right _ (List.mem_append_right _ (List.mem_append_right _ (List.mem_append_right _ (List.mem_append_left _ h))))))))))))))))))))))))))))
theorem Wi_Wr29 : ∀ w ∈ Wr29, w ∈ Wall := fun _ h => List.mem_append_right _ (List.mem_append_right _ (List.mem_append_right _ (List.mem_append_right _ (List.mem_append_right _ (List.mem_append_right _ (List.mem_append_right _ (List.mem_append_right _ (List.mem_append_right _ (List.mem_append_right _ (List.mem_append_right _ (List.mem_append_right _ (List.mem_append_right _ (List.mem_append_right _ (List.mem_append_right _ (List.mem_append_right _ (List.mem_append_right _ (List.mem_append_right _ (List.mem_append_right _ (List.mem_append_right _ (List.mem_append_right _ (List.mem_append_right _ (List.mem_append_right _ (List.mem_append_right _ (List.mem_append_right _ (List.mem_append_right _ (List.mem_append_right _ (List.mem_append_right _ (List.mem_append_right _ (List.mem_append_left _ h)))))))))))))))))))))))))))))
theorem Wi_wsX00 : ∀ w ∈ wsX00, w ∈ Wall := fun _ h => List.mem_append_right _ (List.mem_append_right _ (List.mem_append_right _ (List.mem_append_right _ (List.mem_append_right _ (List.mem_append_right _ (List.mem_append_right _ (List.mem_append_right _ (List.mem_append_right _ (List.mem_append_right _ (List.mem_append_right _ (List.mem_append_right _ (List.mem_append_right _ (List.mem_append_right _ (List.mem_append_right _ (List.mem_append_right _ (List.mem_append_right _ (List.mem_append_right _ (List.mem_append_right _ (List.mem_append_right _ (List.mem_append_right _ (List.mem_append_right _ (List.mem_append_right _ (List.mem_append_right _ (List.mem_append_right _ (List.mem_append_right _ (List.mem_append_right _ (List.mem_append_right _ (List.mem_append_right _ (List.mem_append_right _ (List.mem_append_left _ h))))))))))))))))))))))))))))))
theorem Wi_wsX10 : ∀ w ∈ wsX10, w ∈ Wall := fun _ h => List.mem_append_right _ (List.mem_append_right _ (List.mem_append_right _ (List.mem_append_right _ (List.mem_append_right _ (List.mem_append_right _ (List.mem_append_right _ (List.mem_append_right _ (List.mem_append_right _ (List.mem_append_right _ (List.mem_append_right _ (List.mem_append_right _ (List.mem_append_right _ (List.mem_append_right _ (List.mem_append_right _ (List.mem_append_right _ (List.mem_append_right _ (List.mem_append_right _ (List.mem_append_right _ (List.mem_append_right _ (List.mem_append_right _ (List.mem_append_right _ (List.mem_append_right _ (List.mem_append_right _ (List.mem_append_right _ (List.mem_append_right _ (List.mem_append_right _ (List.mem_append_right _ (List.mem_append_right _ (List.mem_append_right _ (List.mem_append_right _ (List.mem_append_left _ h)))))))))))))))))))))))))))))))
theorem Wi_wsX20 : ∀ w ∈ wsX20, w ∈ Wall := fun _ h => List.mem_append_right _ (List.mem_append_right _ (List.mem_append_right _ (List.mem_append_right _ (List.mem_append_right _ (List.mem_append_right _ (List.mem_append_right _ (List.mem_append_right _ (List.mem_append_right _ (List.mem_append_right _ (List.mem_append_right _ (List.mem_append_right _ (List.mem_append_right _ (List.mem_append_right _ (List.mem_append_right _ (List.mem_append_right _ (List.mem_append_right _ (List.mem_append_right _ (List.mem_append_right _ (List.mem_append_right _ (List.mem_append_right _ (List.mem_append_right _ (List.mem_append_right _ (List.mem_append_right _ (List.mem_append_right _ (List.mem_append_right _ (List.mem_append_right _ (List.mem_append_right _ (List.mem_append_right _ (List.mem_append_right _ (List.mem_append_right _ (List.mem_append_right _ (List.mem_append_left _ h))))))))))))))))))))))))))))))))
theorem Wi_wsX30 : ∀ w ∈ wsX30, w ∈ Wall := fun _ h => List.mem_append_right _ (List.mem_append_right _ (List.mem_append_right _ (List.mem_append_right _ (List.mem_append_right _ (List.mem_append_right _ (List.mem_append_right _ (List.mem_append_right _ (List.mem_append_right _ (List.mem_append_right _ (List.mem_append_right _ (List.mem_append_right _ (List.mem_append_right _ (List.mem_append_right _ (List.mem_append_right _ (List.mem_append_right _ (List.mem_append_right _ (List.mem_append_right _ (List.mem_append_right _ (List.mem_append_right _ (List.mem_append_right _ (List.mem_append_right _ (List.mem_append_right _ (List.mem_append_right _ (List.mem_append_right _ (List.mem_append_right _ (List.mem_append_right _ (List.mem_append_right _ (List.mem_append_right _ (List.mem_append_right _ (List.mem_append_right _ (List.mem_append_right _ (List.mem_append_right _ (List.mem_append_left _ h)))))))))))))))))))))))))))))))))
theorem Wi_wsX40 : ∀ w ∈ wsX40, w ∈ Wall := fun _ h => List.mem_append_right _ (List.mem_append_right _ (List.mem_append_right _ (List.mem_append_right _ (List.mem_append_right _ (List.mem_append_right _ (List.mem_append_right _ (List.mem_append_right _ (List.mem_append_right _ (List.mem_append_right _ (List.mem_append_right _ (List.mem_append_right _ (List.mem_append_right _ (List.mem_append_right _ (List.mem_append_right _ (List.mem_append_right _ (List.mem_append_right _ (List.mem_append_right _ (List.mem_append_right _ (List.mem_append_right _ (List.mem_append_right _ (List.mem_append_right _ (List.mem_append_right _ (List.mem_append_right _ (List.mem_append_right _ (List.mem_append_right _ (List.mem_append_right _ (List.mem_append_right _ (List.mem_append_right _ (List.mem_append_right _ (List.mem_append_right _ (List.mem_append_right _ (List.mem_append_right _ (List.mem_append_right _ (List.mem_append_left _ h))))))))))))))))))))))))))))))))))
theorem Wi_wsX50 : ∀ w ∈ wsX50, w ∈ Wall := fun _ h => List.mem_append_right _ (List.mem_append_right _ (List.mem_append_right _ (List.mem_append_right _ (List.mem_append_right _ (List.mem_append_right _ (List.mem_append_right _ (List.mem_append_right _ (List.mem_append_right _ (List.mem_append_right _ (List.mem_append_right _ (List.mem_append_right _ (List.mem_append_right _ (List.mem_append_right _ (List.mem_append_right _ (List.mem_append_right _ (List.mem_append_right _ (List.mem_append_right _ (List.mem_append_right _ (List.mem_append_right _ (List.mem_append_right _ (List.mem_append_right _ (List.mem_append_right _ (List.mem_append_right _ (List.mem_append_right _ (List.mem_append_right _ (List.mem_append_right _ (List.mem_append_right _ (List.mem_append_right _ (List.mem_append_right _ (List.mem_append_right _ (List.mem_append_right _ (List.mem_append_right _ (List.mem_append_right _ (List.mem_append_right _ (List.mem_append_left _ h)))))))))))))))))))))))))))))))))))
theorem Wi_wsX60 : ∀ w ∈ wsX60, w ∈ Wall := fun _ h => List.mem_append_right _ (List.mem_append_right _ (List.mem_append_right _ (List.mem_append_right _ (List.mem_append_right _ (List.mem_append_right _ (List.mem_append_right _ (List.mem_append_right _ (List.mem_append_right _ (List.mem_append_right _ (List.mem_append_right _ (List.mem_append_right _ (List.mem_append_right _ (List.mem_append_right _ (List.mem_append_right _ (List.mem_append_right _ (List.mem_append_right _ (List.mem_append_right _ (List.mem_append_right _ (List.mem_append_right _ (List.mem_append_right _ (List.mem_append_right _ (List.mem_append_right _ (List.mem_append_right _ (List.mem_append_right _ (List.mem_append_right _ (List.mem_append_right _ (List.mem_append_right _ (List.mem_append_right _ (List.mem_append_right _ (List.mem_append_right _ (List.mem_append_right _ (List.mem_append_right _ (List.mem_append_right _ (List.mem_append_right _ (List.mem_append_right _ (List.mem_append_left _ h))))))))))))))))))))))))))))))))))))
theorem Wi_wsX70 : ∀ w ∈ wsX70, w ∈ Wall := fun _ h => List.mem_append_right _ (List.mem_append_right _ (List.mem_append_right _ (List.mem_append_right _ (List.mem_append_right _ (List.mem_append_right _ (List.mem_append_right _ (List.mem_append_right _ (List.mem_append_right _ (List.mem_append_right _ (List.mem_append_right _ (List.mem_append_right _ (List.mem_append_right _ (List.mem_append_right _ (List.mem_append_right _ (List.mem_append_right _ (List.mem_append_right _ (List.mem_append_right _ (List.mem_append_right _ (List.mem_append_right _ (List.mem_append_right _ (List.mem_append_right _ (List.mem_append_right _ (List.mem_append_right _ (List.mem_append_right _ (List.mem_append_right _ (List.mem_append_right _ (List.mem_append_right _ (List.mem_append_right _ (List.mem_append_right _ (List.mem_append_right _ (List.mem_append_right _ (List.mem_append_right _ (List.mem_append_right _ (List.mem_append_right _ (List.mem_append_right _ (List.mem_append_right _ (List.mem_append_left _ h)))))))))))))))))))))))))))))))))))))
theorem Wi_wsX80 : ∀ w ∈ wsX80, w ∈ Wall := fun _ h => List.mem_append_right _ (List.mem_append_right _ (List.mem_append_right _ (List.mem_append_right _ (List.mem_append_right _ (List.mem_append_right _ (List.mem_append_right _ (List.mem_append_right _ (List.mem_append_right _ (List.mem_append_right _ (List.mem_append_right _ (List.mem_append_right _ (List.mem_append_right _ (List.mem_append_right _ (List.mem_append_right _ (List.mem_append_right _ (List.mem_append_right _ (List.mem_append_right _ (List.mem_append_right _ (List.mem_append_right _ (List.mem_append_right _ (List.mem_append_right _ (List.mem_append_right _ (List.mem_append_right _ (List.mem_append_right _ (List.mem_append_right _ (List.mem_append_right _ (List.mem_append_right _ (List.mem_append_right _ (List.mem_append_right _ (List.mem_append_right _ (List.mem_append_right _ (List.mem_append_right _ (List.mem_append_right _ (List.mem_append_right _ (List.mem_append_right _ (List.mem_append_right _ (List.mem_append_right _ (h))))))))))))))))))))))))))))))))))))))
theorem mw_0 : Cond.classLink RL 7 RX7 ∈ Wall := Wi_Wr0 _ (List.mem_of_getElem? (i := 0) rfl)
theorem mw_1 : Cond.instantiable RX7 6 ∈ Wall := Wi_Wr0 _ (List.mem_of_getElem? (i := 1) rfl)
theorem mw_2 : Cond.initialized RX7 ∈ Wall := Wi_Wr0 _ (List.mem_of_getElem? (i := 2) rfl)
theorem mw_3 : Cond.classLink RL 10 RX8 ∈ Wall := Wi_Wr0 _ (List.mem_of_getElem? (i := 3) rfl)
theorem mw_4 : Cond.instantiable RX8 8 ∈ Wall := Wi_Wr0 _ (List.mem_of_getElem? (i := 4) rfl)
theorem mw_5 : Cond.initialized RX8 ∈ Wall := Wi_Wr0 _ (List.mem_of_getElem? (i := 5) rfl)
theorem mw_6 : Cond.constantLong RL 77 (4294967295) ∈ Wall := Wi_Wr0 _ (List.mem_of_getElem? (i := 6) rfl)
theorem mw_7 : Cond.methodLink RL 9 yX7_init ∈ Wall := Wi_Wr0 _ (List.mem_of_getElem? (i := 7) rfl)
theorem mw_8 : Cond.instanceMethod yX7_init ∈ Wall := Wi_Wr0 _ (List.mem_of_getElem? (i := 8) rfl)
theorem mw_9 : Cond.code yX7_init cX7_init 2 none ∈ Wall := Wi_Wr0 _ (List.mem_of_getElem? (i := 9) rfl)
theorem mw_10 : Cond.methodLink RX7 1 objectInit ∈ Wall := Wi_Wr0 _ (List.mem_of_getElem? (i := 10) rfl)
theorem mw_11 : Cond.instanceMethod objectInit ∈ Wall := Wi_Wr0 _ (List.mem_of_getElem? (i := 11) rfl)
theorem mw_12 : Cond.code objectInit ⟨#[0xb1]⟩ 1 none ∈ Wall := Wi_Wr0 _ (List.mem_of_getElem? (i := 12) rfl)
theorem mw_13 : Cond.classLink RX7 7 RX6 ∈ Wall := Wi_Wr0 _ (List.mem_of_getElem? (i := 13) rfl)
theorem mw_14 : Cond.instantiable RX6 7 ∈ Wall := Wi_Wr0 _ (List.mem_of_getElem? (i := 14) rfl)
theorem mw_15 : Cond.initialized RX6 ∈ Wall := Wi_Wr0 _ (List.mem_of_getElem? (i := 15) rfl)
theorem mw_16 : Cond.fieldLink RX7 10 "HoopStairs" "now" "LHoopStairs$State;" ∈ Wall := Wi_Wr0 _ (List.mem_of_getElem? (i := 16) rfl)
theorem mw_17 : Cond.classLink RX7 16 RX0 ∈ Wall := Wi_Wr0 _ (List.mem_of_getElem? (i := 17) rfl)
theorem mw_18 : Cond.instantiable RX0 3 ∈ Wall := Wi_Wr0 _ (List.mem_of_getElem? (i := 18) rfl)
theorem mw_19 : Cond.initialized RX0 ∈ Wall := Wi_Wr0 _ (List.mem_of_getElem? (i := 19) rfl)
theorem mw_20 : Cond.fieldLink RX7 19 "HoopStairs" "history" "LHoopStairs$History;" ∈ Wall := Wi_Wr0 _ (List.mem_of_getElem? (i := 20) rfl)
theorem mw_21 : Cond.fieldLink RX7 23 "HoopStairs" "slots" "[LHoopStairs$State;" ∈ Wall := Wi_Wr0 _ (List.mem_of_getElem? (i := 21) rfl)
theorem mw_22 : Cond.arrayClass .boolean ∈ Wall := Wi_Wr0 _ (List.mem_of_getElem? (i := 22) rfl)
theorem mw_23 : Cond.fieldLink RX7 27 "HoopStairs" "filled" "[Z" ∈ Wall := Wi_Wr0 _ (List.mem_of_getElem? (i := 23) rfl)
theorem mw_24 : Cond.classLink RX7 31 RX2 ∈ Wall := Wi_Wr1 _ (List.mem_of_getElem? (i := 0) rfl)
theorem mw_25 : Cond.instantiable RX2 5 ∈ Wall := Wi_Wr1 _ (List.mem_of_getElem? (i := 1) rfl)
theorem mw_26 : Cond.initialized RX2 ∈ Wall := Wi_Wr1 _ (List.mem_of_getElem? (i := 2) rfl)
theorem mw_27 : Cond.fieldLink RX7 34 "HoopStairs" "pad" "LHoopStairs$Pad;" ∈ Wall := Wi_Wr1 _ (List.mem_of_getElem? (i := 3) rfl)
theorem mw_28 : Cond.classLink RX7 38 RX1 ∈ Wall := Wi_Wr1 _ (List.mem_of_getElem? (i := 4) rfl)
theorem mw_29 : Cond.instantiable RX1 10 ∈ Wall := Wi_Wr1 _ (List.mem_of_getElem? (i := 5) rfl)
theorem mw_30 : Cond.initialized RX1 ∈ Wall := Wi_Wr1 _ (List.mem_of_getElem? (i := 6) rfl)
theorem mw_31 : Cond.fieldLink RX7 41 "HoopStairs" "trial" "LHoopStairs$Hoop;" ∈ Wall := Wi_Wr1 _ (List.mem_of_getElem? (i := 7) rfl)
theorem mw_32 : Cond.methodLink RX7 9 yX6_init ∈ Wall := Wi_Wr1 _ (List.mem_of_getElem? (i := 8) rfl)
theorem mw_33 : Cond.instanceMethod yX6_init ∈ Wall := Wi_Wr1 _ (List.mem_of_getElem? (i := 9) rfl)
theorem mw_34 : Cond.code yX6_init cX6_init 1 none ∈ Wall := Wi_Wr1 _ (List.mem_of_getElem? (i := 10) rfl)
theorem mw_35 : Cond.methodLink RX6 3 objectInit ∈ Wall := Wi_Wr1 _ (List.mem_of_getElem? (i := 11) rfl)
theorem mw_36 : Cond.classLink RX6 9 RX4 ∈ Wall := Wi_Wr1 _ (List.mem_of_getElem? (i := 12) rfl)
theorem mw_37 : Cond.instantiable RX4 1 ∈ Wall := Wi_Wr1 _ (List.mem_of_getElem? (i := 13) rfl)
theorem mw_38 : Cond.initialized RX4 ∈ Wall := Wi_Wr1 _ (List.mem_of_getElem? (i := 14) rfl)
theorem mw_39 : Cond.fieldLink RX6 12 "HoopStairs$State" "settings" "LHoopStairs$Settings;" ∈ Wall := Wi_Wr1 _ (List.mem_of_getElem? (i := 15) rfl)
theorem mw_40 : Cond.classLink RX6 18 RX5 ∈ Wall := Wi_Wr1 _ (List.mem_of_getElem? (i := 16) rfl)
theorem mw_41 : Cond.instantiable RX5 2 ∈ Wall := Wi_Wr1 _ (List.mem_of_getElem? (i := 17) rfl)
theorem mw_42 : Cond.initialized RX5 ∈ Wall := Wi_Wr1 _ (List.mem_of_getElem? (i := 18) rfl)
theorem mw_43 : Cond.fieldLink RX6 21 "HoopStairs$State" "stair" "LHoopStairs$Stair;" ∈ Wall := Wi_Wr1 _ (List.mem_of_getElem? (i := 19) rfl)
theorem mw_44 : Cond.classLink RX6 25 RX1 ∈ Wall := Wi_Wr1 _ (List.mem_of_getElem? (i := 20) rfl)
theorem mw_45 : Cond.fieldLink RX6 28 "HoopStairs$State" "hoop" "LHoopStairs$Hoop;" ∈ Wall := Wi_Wr1 _ (List.mem_of_getElem? (i := 21) rfl)
theorem mw_46 : Cond.classLink RX6 32 RX3 ∈ Wall := Wi_Wr1 _ (List.mem_of_getElem? (i := 22) rfl)
theorem mw_47 : Cond.instantiable RX3 2 ∈ Wall := Wi_Wr1 _ (List.mem_of_getElem? (i := 23) rfl)
theorem mw_48 : Cond.initialized RX3 ∈ Wall := Wi_Wr2 _ (List.mem_of_getElem? (i := 0) rfl)
theorem mw_49 : Cond.fieldLink RX6 35 "HoopStairs$State" "log" "LHoopStairs$RunLog;" ∈ Wall := Wi_Wr2 _ (List.mem_of_getElem? (i := 1) rfl)
theorem mw_50 : Cond.arrayClass .int ∈ Wall := Wi_Wr2 _ (List.mem_of_getElem? (i := 2) rfl)
theorem mw_51 : Cond.fieldLink RX6 39 "HoopStairs$State" "ended" "[I" ∈ Wall := Wi_Wr2 _ (List.mem_of_getElem? (i := 3) rfl)
theorem mw_52 : Cond.fieldLink RX6 43 "HoopStairs$State" "runs" "I" ∈ Wall := Wi_Wr2 _ (List.mem_of_getElem? (i := 4) rfl)
theorem mw_53 : Cond.fieldLink RX6 47 "HoopStairs$State" "taps" "I" ∈ Wall := Wi_Wr2 _ (List.mem_of_getElem? (i := 5) rfl)
theorem mw_54 : Cond.methodLink RX6 11 yX4_init ∈ Wall := Wi_Wr2 _ (List.mem_of_getElem? (i := 6) rfl)
theorem mw_55 : Cond.instanceMethod yX4_init ∈ Wall := Wi_Wr2 _ (List.mem_of_getElem? (i := 7) rfl)
theorem mw_56 : Cond.code yX4_init cX4_init 1 none ∈ Wall := Wi_Wr2 _ (List.mem_of_getElem? (i := 8) rfl)
theorem mw_57 : Cond.methodLink RX4 1 objectInit ∈ Wall := Wi_Wr2 _ (List.mem_of_getElem? (i := 9) rfl)
theorem mw_58 : Cond.fieldLink RX4 7 "HoopStairs$Settings" "FIRST" "[I" ∈ Wall := Wi_Wr2 _ (List.mem_of_getElem? (i := 10) rfl)
theorem mw_59 : Cond.methodLink RX4 13 ⟨"[I", "clone", "()Ljava/lang/Object;"⟩ ∈ Wall := Wi_Wr2 _ (List.mem_of_getElem? (i := 11) rfl)
theorem mw_60 : Cond.sameMethod "[I" "java/lang/Object" "clone" "()Ljava/lang/Object;" ∈ Wall := Wi_Wr2 _ (List.mem_of_getElem? (i := 12) rfl)
theorem mw_61 : Cond.native ⟨"java/lang/Object", "clone", "()Ljava/lang/Object;"⟩ ∈ Wall := Wi_Wr2 _ (List.mem_of_getElem? (i := 13) rfl)
theorem mw_62 : Cond.instanceMethod ⟨"java/lang/Object", "clone", "()Ljava/lang/Object;"⟩ ∈ Wall := Wi_Wr2 _ (List.mem_of_getElem? (i := 14) rfl)
theorem mw_63 : Cond.selects "[I" ⟨"[I", "clone", "()Ljava/lang/Object;"⟩ ⟨"java/lang/Object", "clone", "()Ljava/lang/Object;"⟩ ∈ Wall := Wi_Wr2 _ (List.mem_of_getElem? (i := 15) rfl)
theorem mw_64 : Cond.classLink RX4 14 "[I" ∈ Wall := Wi_Wr2 _ (List.mem_of_getElem? (i := 16) rfl)
theorem mw_65 : Cond.fieldLink RX4 18 "HoopStairs$Settings" "values" "[I" ∈ Wall := Wi_Wr2 _ (List.mem_of_getElem? (i := 17) rfl)
theorem mw_66 : Cond.methodLink RX6 20 yX5_init ∈ Wall := Wi_Wr2 _ (List.mem_of_getElem? (i := 18) rfl)
theorem mw_67 : Cond.instanceMethod yX5_init ∈ Wall := Wi_Wr2 _ (List.mem_of_getElem? (i := 19) rfl)
theorem mw_68 : Cond.code yX5_init cX5_init 1 none ∈ Wall := Wi_Wr2 _ (List.mem_of_getElem? (i := 20) rfl)
theorem mw_69 : Cond.methodLink RX5 1 objectInit ∈ Wall := Wi_Wr2 _ (List.mem_of_getElem? (i := 21) rfl)
theorem mw_70 : Cond.classLink RX5 9 "[[I" ∈ Wall := Wi_Wr2 _ (List.mem_of_getElem? (i := 22) rfl)
theorem mw_71 : Cond.fieldLink RX5 11 "HoopStairs$Stair" "columns" "[[I" ∈ Wall := Wi_Wr2 _ (List.mem_of_getElem? (i := 23) rfl)
theorem mw_72 : Cond.fieldLink RX5 14 "HoopStairs$Stair" "length" "I" ∈ Wall := Wi_Wr3 _ (List.mem_of_getElem? (i := 0) rfl)
theorem mw_73 : Cond.methodLink RX6 27 yX1_init ∈ Wall := Wi_Wr3 _ (List.mem_of_getElem? (i := 1) rfl)
theorem mw_74 : Cond.instanceMethod yX1_init ∈ Wall := Wi_Wr3 _ (List.mem_of_getElem? (i := 2) rfl)
theorem mw_75 : Cond.code yX1_init cX1_init 1 none ∈ Wall := Wi_Wr3 _ (List.mem_of_getElem? (i := 3) rfl)
theorem mw_76 : Cond.methodLink RX1 3 objectInit ∈ Wall := Wi_Wr3 _ (List.mem_of_getElem? (i := 4) rfl)
theorem mw_77 : Cond.fieldLink RX1 9 "HoopStairs$Hoop" "there" "Z" ∈ Wall := Wi_Wr3 _ (List.mem_of_getElem? (i := 5) rfl)
theorem mw_78 : Cond.methodLink RX6 34 yX3_init ∈ Wall := Wi_Wr3 _ (List.mem_of_getElem? (i := 6) rfl)
theorem mw_79 : Cond.instanceMethod yX3_init ∈ Wall := Wi_Wr3 _ (List.mem_of_getElem? (i := 7) rfl)
theorem mw_80 : Cond.code yX3_init cX3_init 1 none ∈ Wall := Wi_Wr3 _ (List.mem_of_getElem? (i := 8) rfl)
theorem mw_81 : Cond.methodLink RX3 1 objectInit ∈ Wall := Wi_Wr3 _ (List.mem_of_getElem? (i := 9) rfl)
theorem mw_82 : Cond.classLink RX3 9 "[[I" ∈ Wall := Wi_Wr3 _ (List.mem_of_getElem? (i := 10) rfl)
theorem mw_83 : Cond.fieldLink RX3 11 "HoopStairs$RunLog" "columns" "[[I" ∈ Wall := Wi_Wr3 _ (List.mem_of_getElem? (i := 11) rfl)
theorem mw_84 : Cond.fieldLink RX3 14 "HoopStairs$RunLog" "length" "I" ∈ Wall := Wi_Wr3 _ (List.mem_of_getElem? (i := 12) rfl)
theorem mw_85 : Cond.methodLink RX7 18 yX0_init ∈ Wall := Wi_Wr3 _ (List.mem_of_getElem? (i := 13) rfl)
theorem mw_86 : Cond.instanceMethod yX0_init ∈ Wall := Wi_Wr3 _ (List.mem_of_getElem? (i := 14) rfl)
theorem mw_87 : Cond.code yX0_init cX0_init 2 none ∈ Wall := Wi_Wr3 _ (List.mem_of_getElem? (i := 15) rfl)
theorem mw_88 : Cond.methodLink RX0 1 objectInit ∈ Wall := Wi_Wr3 _ (List.mem_of_getElem? (i := 16) rfl)
theorem mw_89 : Cond.classLink RX0 9 RX6 ∈ Wall := Wi_Wr3 _ (List.mem_of_getElem? (i := 17) rfl)
theorem mw_90 : Cond.fieldLink RX0 11 "HoopStairs$History" "states" "[LHoopStairs$State;" ∈ Wall := Wi_Wr3 _ (List.mem_of_getElem? (i := 18) rfl)
theorem mw_91 : Cond.fieldLink RX0 16 "HoopStairs$History" "next" "I" ∈ Wall := Wi_Wr3 _ (List.mem_of_getElem? (i := 19) rfl)
theorem mw_92 : Cond.fieldLink RX0 20 "HoopStairs$History" "length" "I" ∈ Wall := Wi_Wr3 _ (List.mem_of_getElem? (i := 20) rfl)
theorem mw_93 : Cond.methodLink RX0 15 yX6_init ∈ Wall := Wi_Wr3 _ (List.mem_of_getElem? (i := 21) rfl)
theorem mw_94 : Cond.methodLink RX7 33 yX2_init ∈ Wall := Wi_Wr3 _ (List.mem_of_getElem? (i := 22) rfl)
theorem mw_95 : Cond.instanceMethod yX2_init ∈ Wall := Wi_Wr3 _ (List.mem_of_getElem? (i := 23) rfl)
theorem mw_96 : Cond.code yX2_init cX2_init 1 none ∈ Wall := Wi_Wr4 _ (List.mem_of_getElem? (i := 0) rfl)
theorem mw_97 : Cond.methodLink RX2 3 objectInit ∈ Wall := Wi_Wr4 _ (List.mem_of_getElem? (i := 1) rfl)
theorem mw_98 : Cond.fieldLink RX2 11 "HoopStairs$Pad" "codes" "[I" ∈ Wall := Wi_Wr4 _ (List.mem_of_getElem? (i := 2) rfl)
theorem mw_99 : Cond.fieldLink RX2 15 "HoopStairs$Pad" "length" "I" ∈ Wall := Wi_Wr4 _ (List.mem_of_getElem? (i := 3) rfl)
theorem mw_100 : Cond.fieldLink RX2 19 "HoopStairs$Pad" "at" "I" ∈ Wall := Wi_Wr4 _ (List.mem_of_getElem? (i := 4) rfl)
theorem mw_101 : Cond.methodLink RX7 40 yX1_init ∈ Wall := Wi_Wr4 _ (List.mem_of_getElem? (i := 5) rfl)
theorem mw_102 : Cond.methodLink RL 12 yX8_init ∈ Wall := Wi_Wr4 _ (List.mem_of_getElem? (i := 6) rfl)
theorem mw_103 : Cond.instanceMethod yX8_init ∈ Wall := Wi_Wr4 _ (List.mem_of_getElem? (i := 7) rfl)
theorem mw_104 : Cond.code yX8_init cX8_init 1 none ∈ Wall := Wi_Wr4 _ (List.mem_of_getElem? (i := 8) rfl)
theorem mw_105 : Cond.methodLink RX8 1 objectInit ∈ Wall := Wi_Wr4 _ (List.mem_of_getElem? (i := 9) rfl)
theorem mw_106 : Cond.fieldLink RX8 7 "HoopStairsModel" "s" "[I" ∈ Wall := Wi_Wr4 _ (List.mem_of_getElem? (i := 10) rfl)
theorem mw_107 : Cond.fieldLink RX8 13 "HoopStairsModel" "past" "[I" ∈ Wall := Wi_Wr4 _ (List.mem_of_getElem? (i := 11) rfl)
theorem mw_108 : Cond.fieldLink RX8 16 "HoopStairsModel" "slots" "[I" ∈ Wall := Wi_Wr4 _ (List.mem_of_getElem? (i := 12) rfl)
theorem mw_109 : Cond.fieldLink RX8 19 "HoopStairsModel" "isSaved" "[Z" ∈ Wall := Wi_Wr4 _ (List.mem_of_getElem? (i := 13) rfl)
theorem mw_110 : Cond.fieldLink RX8 23 "HoopStairsModel" "pad" "[I" ∈ Wall := Wi_Wr4 _ (List.mem_of_getElem? (i := 14) rfl)
theorem mw_111 : Cond.methodLink RL 13 yX7_set ∈ Wall := Wi_Wr4 _ (List.mem_of_getElem? (i := 15) rfl)
theorem mw_112 : Cond.instanceMethod yX7_set ∈ Wall := Wi_Wr4 _ (List.mem_of_getElem? (i := 16) rfl)
theorem mw_113 : Cond.selects RX7 yX7_set yX7_set ∈ Wall := Wi_Wr4 _ (List.mem_of_getElem? (i := 17) rfl)
theorem mw_114 : Cond.code yX7_set cX7_set 3 (some .int) ∈ Wall := Wi_Wr4 _ (List.mem_of_getElem? (i := 18) rfl)
theorem mw_115 : Cond.methodLink RX7 49 yX4_allows ∈ Wall := Wi_Wr4 _ (List.mem_of_getElem? (i := 19) rfl)
theorem mw_116 : Cond.instanceMethod yX4_allows ∈ Wall := Wi_Wr4 _ (List.mem_of_getElem? (i := 20) rfl)
theorem mw_117 : Cond.selects RX4 yX4_allows yX4_allows ∈ Wall := Wi_Wr4 _ (List.mem_of_getElem? (i := 21) rfl)
theorem mw_118 : Cond.code yX4_allows cX4_allows 3 (some .boolean) ∈ Wall := Wi_Wr4 _ (List.mem_of_getElem? (i := 22) rfl)
theorem mw_119 : Cond.fieldLink RX4 27 "HoopStairs$Settings" "LEAST" "[I" ∈ Wall := Wi_Wr4 _ (List.mem_of_getElem? (i := 23) rfl)
theorem mw_120 : Cond.fieldLink RX4 30 "HoopStairs$Settings" "GREATEST" "[I" ∈ Wall := Wi_Wr5 _ (List.mem_of_getElem? (i := 0) rfl)
theorem mw_121 : Cond.methodLink RX7 55 yX0_record ∈ Wall := Wi_Wr5 _ (List.mem_of_getElem? (i := 1) rfl)
theorem mw_122 : Cond.instanceMethod yX0_record ∈ Wall := Wi_Wr5 _ (List.mem_of_getElem? (i := 2) rfl)
theorem mw_123 : Cond.selects RX0 yX0_record yX0_record ∈ Wall := Wi_Wr5 _ (List.mem_of_getElem? (i := 3) rfl)
theorem mw_124 : Cond.code yX0_record cX0_record 2 none ∈ Wall := Wi_Wr5 _ (List.mem_of_getElem? (i := 4) rfl)
theorem mw_125 : Cond.methodLink RX0 27 Lib.Math.min.name ∈ Wall := Wi_Wr5 _ (List.mem_of_getElem? (i := 5) rfl)
theorem mw_126 : Cond.static Lib.Math.min.name ∈ Wall := Wi_Wr5 _ (List.mem_of_getElem? (i := 6) rfl)
theorem mw_127 : Cond.initialized "java/lang/Math" ∈ Wall := Wi_Wr5 _ (List.mem_of_getElem? (i := 7) rfl)
theorem mw_128 : Cond.code Lib.Math.min.name Lib.Math.min.code 2 (some .int) ∈ Wall := Wi_Wr5 _ (List.mem_of_getElem? (i := 8) rfl)
theorem mw_129 : Cond.methodLink RX0 23 yX6_copyFrom ∈ Wall := Wi_Wr5 _ (List.mem_of_getElem? (i := 9) rfl)
theorem mw_130 : Cond.instanceMethod yX6_copyFrom ∈ Wall := Wi_Wr5 _ (List.mem_of_getElem? (i := 10) rfl)
theorem mw_131 : Cond.selects RX6 yX6_copyFrom yX6_copyFrom ∈ Wall := Wi_Wr5 _ (List.mem_of_getElem? (i := 11) rfl)
theorem mw_132 : Cond.code yX6_copyFrom cX6_copyFrom 2 none ∈ Wall := Wi_Wr5 _ (List.mem_of_getElem? (i := 12) rfl)
theorem mw_133 : Cond.methodLink RX6 63 arraycopyName ∈ Wall := Wi_Wr5 _ (List.mem_of_getElem? (i := 13) rfl)
theorem mw_134 : Cond.native arraycopyName ∈ Wall := Wi_Wr5 _ (List.mem_of_getElem? (i := 14) rfl)
theorem mw_135 : Cond.static arraycopyName ∈ Wall := Wi_Wr5 _ (List.mem_of_getElem? (i := 15) rfl)
theorem mw_136 : Cond.initialized "java/lang/System" ∈ Wall := Wi_Wr5 _ (List.mem_of_getElem? (i := 16) rfl)
theorem mw_137 : Cond.methodLink RX6 50 yX4_copyFrom ∈ Wall := Wi_Wr5 _ (List.mem_of_getElem? (i := 17) rfl)
theorem mw_138 : Cond.instanceMethod yX4_copyFrom ∈ Wall := Wi_Wr5 _ (List.mem_of_getElem? (i := 18) rfl)
theorem mw_139 : Cond.selects RX4 yX4_copyFrom yX4_copyFrom ∈ Wall := Wi_Wr5 _ (List.mem_of_getElem? (i := 19) rfl)
theorem mw_140 : Cond.code yX4_copyFrom cX4_copyFrom 2 none ∈ Wall := Wi_Wr5 _ (List.mem_of_getElem? (i := 20) rfl)
theorem mw_141 : Cond.methodLink RX4 21 arraycopyName ∈ Wall := Wi_Wr5 _ (List.mem_of_getElem? (i := 21) rfl)
theorem mw_142 : Cond.methodLink RX6 54 yX5_copyFrom ∈ Wall := Wi_Wr5 _ (List.mem_of_getElem? (i := 22) rfl)
theorem mw_143 : Cond.instanceMethod yX5_copyFrom ∈ Wall := Wi_Wr5 _ (List.mem_of_getElem? (i := 23) rfl)
theorem mw_144 : Cond.selects RX5 yX5_copyFrom yX5_copyFrom ∈ Wall := Wi_Wr6 _ (List.mem_of_getElem? (i := 0) rfl)
theorem mw_145 : Cond.code yX5_copyFrom cX5_copyFrom 3 none ∈ Wall := Wi_Wr6 _ (List.mem_of_getElem? (i := 1) rfl)
theorem mw_146 : Cond.methodLink RX5 18 arraycopyName ∈ Wall := Wi_Wr6 _ (List.mem_of_getElem? (i := 2) rfl)
theorem mw_147 : Cond.methodLink RX6 57 yX1_copyFrom ∈ Wall := Wi_Wr6 _ (List.mem_of_getElem? (i := 3) rfl)
theorem mw_148 : Cond.instanceMethod yX1_copyFrom ∈ Wall := Wi_Wr6 _ (List.mem_of_getElem? (i := 4) rfl)
theorem mw_149 : Cond.selects RX1 yX1_copyFrom yX1_copyFrom ∈ Wall := Wi_Wr6 _ (List.mem_of_getElem? (i := 5) rfl)
theorem mw_150 : Cond.code yX1_copyFrom cX1_copyFrom 2 none ∈ Wall := Wi_Wr6 _ (List.mem_of_getElem? (i := 6) rfl)
theorem mw_151 : Cond.fieldLink RX1 15 "HoopStairs$Hoop" "size" "I" ∈ Wall := Wi_Wr6 _ (List.mem_of_getElem? (i := 7) rfl)
theorem mw_152 : Cond.fieldLink RX1 19 "HoopStairs$Hoop" "speed" "I" ∈ Wall := Wi_Wr6 _ (List.mem_of_getElem? (i := 8) rfl)
theorem mw_153 : Cond.fieldLink RX1 22 "HoopStairs$Hoop" "lean" "I" ∈ Wall := Wi_Wr6 _ (List.mem_of_getElem? (i := 9) rfl)
theorem mw_154 : Cond.fieldLink RX1 25 "HoopStairs$Hoop" "wobble" "I" ∈ Wall := Wi_Wr6 _ (List.mem_of_getElem? (i := 10) rfl)
theorem mw_155 : Cond.fieldLink RX1 28 "HoopStairs$Hoop" "place" "I" ∈ Wall := Wi_Wr6 _ (List.mem_of_getElem? (i := 11) rfl)
theorem mw_156 : Cond.fieldLink RX1 31 "HoopStairs$Hoop" "ending" "I" ∈ Wall := Wi_Wr6 _ (List.mem_of_getElem? (i := 12) rfl)
theorem mw_157 : Cond.fieldLink RX1 34 "HoopStairs$Hoop" "taps" "I" ∈ Wall := Wi_Wr6 _ (List.mem_of_getElem? (i := 13) rfl)
theorem mw_158 : Cond.fieldLink RX1 37 "HoopStairs$Hoop" "pushes" "I" ∈ Wall := Wi_Wr6 _ (List.mem_of_getElem? (i := 14) rfl)
theorem mw_159 : Cond.fieldLink RX1 40 "HoopStairs$Hoop" "greatestLean" "I" ∈ Wall := Wi_Wr6 _ (List.mem_of_getElem? (i := 15) rfl)
theorem mw_160 : Cond.methodLink RX6 60 yX3_copyFrom ∈ Wall := Wi_Wr6 _ (List.mem_of_getElem? (i := 16) rfl)
theorem mw_161 : Cond.instanceMethod yX3_copyFrom ∈ Wall := Wi_Wr6 _ (List.mem_of_getElem? (i := 17) rfl)
theorem mw_162 : Cond.selects RX3 yX3_copyFrom yX3_copyFrom ∈ Wall := Wi_Wr6 _ (List.mem_of_getElem? (i := 18) rfl)
theorem mw_163 : Cond.code yX3_copyFrom cX3_copyFrom 3 none ∈ Wall := Wi_Wr6 _ (List.mem_of_getElem? (i := 19) rfl)
theorem mw_164 : Cond.methodLink RX3 18 arraycopyName ∈ Wall := Wi_Wr6 _ (List.mem_of_getElem? (i := 20) rfl)
theorem mw_165 : Cond.methodLink RX7 59 yX4_change ∈ Wall := Wi_Wr6 _ (List.mem_of_getElem? (i := 21) rfl)
theorem mw_166 : Cond.instanceMethod yX4_change ∈ Wall := Wi_Wr6 _ (List.mem_of_getElem? (i := 22) rfl)
theorem mw_167 : Cond.selects RX4 yX4_change yX4_change ∈ Wall := Wi_Wr6 _ (List.mem_of_getElem? (i := 23) rfl)
theorem mw_168 : Cond.code yX4_change cX4_change 4 (some .int) ∈ Wall := Wi_Wr7 _ (List.mem_of_getElem? (i := 0) rfl)
theorem mw_169 : Cond.methodLink RX4 33 yX4_value ∈ Wall := Wi_Wr7 _ (List.mem_of_getElem? (i := 1) rfl)
theorem mw_170 : Cond.instanceMethod yX4_value ∈ Wall := Wi_Wr7 _ (List.mem_of_getElem? (i := 2) rfl)
theorem mw_171 : Cond.selects RX4 yX4_value yX4_value ∈ Wall := Wi_Wr7 _ (List.mem_of_getElem? (i := 3) rfl)
theorem mw_172 : Cond.code yX4_value cX4_value 2 (some .int) ∈ Wall := Wi_Wr7 _ (List.mem_of_getElem? (i := 4) rfl)
theorem mw_173 : Cond.methodLink RX4 37 yX4_allows ∈ Wall := Wi_Wr7 _ (List.mem_of_getElem? (i := 5) rfl)
theorem mw_174 : Cond.methodLink RL 17 yX8_set ∈ Wall := Wi_Wr7 _ (List.mem_of_getElem? (i := 6) rfl)
theorem mw_175 : Cond.instanceMethod yX8_set ∈ Wall := Wi_Wr7 _ (List.mem_of_getElem? (i := 7) rfl)
theorem mw_176 : Cond.selects RX8 yX8_set yX8_set ∈ Wall := Wi_Wr7 _ (List.mem_of_getElem? (i := 8) rfl)
theorem mw_177 : Cond.code yX8_set cX8_set 4 (some .int) ∈ Wall := Wi_Wr7 _ (List.mem_of_getElem? (i := 9) rfl)
theorem mw_178 : Cond.methodLink RX8 65 yX8_canSet ∈ Wall := Wi_Wr7 _ (List.mem_of_getElem? (i := 10) rfl)
theorem mw_179 : Cond.static yX8_canSet ∈ Wall := Wi_Wr7 _ (List.mem_of_getElem? (i := 11) rfl)
theorem mw_180 : Cond.code yX8_canSet cX8_canSet 2 (some .boolean) ∈ Wall := Wi_Wr7 _ (List.mem_of_getElem? (i := 12) rfl)
theorem mw_181 : Cond.methodLink RX8 26 yX8_in ∈ Wall := Wi_Wr7 _ (List.mem_of_getElem? (i := 13) rfl)
theorem mw_182 : Cond.static yX8_in ∈ Wall := Wi_Wr7 _ (List.mem_of_getElem? (i := 14) rfl)
theorem mw_183 : Cond.code yX8_in cX8_in 3 (some .boolean) ∈ Wall := Wi_Wr7 _ (List.mem_of_getElem? (i := 15) rfl)
theorem mw_184 : Cond.methodLink RX8 69 yX8_remembers ∈ Wall := Wi_Wr7 _ (List.mem_of_getElem? (i := 16) rfl)
theorem mw_185 : Cond.instanceMethod yX8_remembers ∈ Wall := Wi_Wr7 _ (List.mem_of_getElem? (i := 17) rfl)
theorem mw_186 : Cond.selects RX8 yX8_remembers yX8_remembers ∈ Wall := Wi_Wr7 _ (List.mem_of_getElem? (i := 18) rfl)
theorem mw_187 : Cond.code yX8_remembers cX8_remembers 2 none ∈ Wall := Wi_Wr7 _ (List.mem_of_getElem? (i := 19) rfl)
theorem mw_188 : Cond.fieldLink RX8 30 "HoopStairsModel" "known" "I" ∈ Wall := Wi_Wr7 _ (List.mem_of_getElem? (i := 20) rfl)
theorem mw_189 : Cond.methodLink RL 18 yX7_part ∈ Wall := Wi_Wr7 _ (List.mem_of_getElem? (i := 21) rfl)
theorem mw_190 : Cond.instanceMethod yX7_part ∈ Wall := Wi_Wr7 _ (List.mem_of_getElem? (i := 22) rfl)
theorem mw_191 : Cond.selects RX7 yX7_part yX7_part ∈ Wall := Wi_Wr7 _ (List.mem_of_getElem? (i := 23) rfl)
theorem mw_192 : Cond.code yX7_part cX7_part 5 (some .int) ∈ Wall := Wi_Wr8 _ (List.mem_of_getElem? (i := 0) rfl)
theorem mw_193 : Cond.methodLink RX7 63 yX6_partError ∈ Wall := Wi_Wr8 _ (List.mem_of_getElem? (i := 1) rfl)
theorem mw_194 : Cond.instanceMethod yX6_partError ∈ Wall := Wi_Wr8 _ (List.mem_of_getElem? (i := 2) rfl)
theorem mw_195 : Cond.selects RX6 yX6_partError yX6_partError ∈ Wall := Wi_Wr8 _ (List.mem_of_getElem? (i := 3) rfl)
theorem mw_196 : Cond.code yX6_partError cX6_partError 4 (some .int) ∈ Wall := Wi_Wr8 _ (List.mem_of_getElem? (i := 4) rfl)
theorem mw_197 : Cond.methodLink RX6 72 yX5_allows ∈ Wall := Wi_Wr8 _ (List.mem_of_getElem? (i := 5) rfl)
theorem mw_198 : Cond.static yX5_allows ∈ Wall := Wi_Wr8 _ (List.mem_of_getElem? (i := 6) rfl)
theorem mw_199 : Cond.code yX5_allows cX5_allows 2 (some .boolean) ∈ Wall := Wi_Wr8 _ (List.mem_of_getElem? (i := 7) rfl)
theorem mw_200 : Cond.methodLink RX7 67 yX6_addPart ∈ Wall := Wi_Wr8 _ (List.mem_of_getElem? (i := 8) rfl)
theorem mw_201 : Cond.instanceMethod yX6_addPart ∈ Wall := Wi_Wr8 _ (List.mem_of_getElem? (i := 9) rfl)
theorem mw_202 : Cond.selects RX6 yX6_addPart yX6_addPart ∈ Wall := Wi_Wr8 _ (List.mem_of_getElem? (i := 10) rfl)
theorem mw_203 : Cond.code yX6_addPart cX6_addPart 4 (some .int) ∈ Wall := Wi_Wr8 _ (List.mem_of_getElem? (i := 11) rfl)
theorem mw_204 : Cond.methodLink RX6 76 yX5_insert ∈ Wall := Wi_Wr8 _ (List.mem_of_getElem? (i := 12) rfl)
theorem mw_205 : Cond.instanceMethod yX5_insert ∈ Wall := Wi_Wr8 _ (List.mem_of_getElem? (i := 13) rfl)
theorem mw_206 : Cond.selects RX5 yX5_insert yX5_insert ∈ Wall := Wi_Wr8 _ (List.mem_of_getElem? (i := 14) rfl)
theorem mw_207 : Cond.code yX5_insert cX5_insert 5 none ∈ Wall := Wi_Wr8 _ (List.mem_of_getElem? (i := 15) rfl)
theorem mw_208 : Cond.methodLink RX6 80 yX1_vanish ∈ Wall := Wi_Wr8 _ (List.mem_of_getElem? (i := 16) rfl)
theorem mw_209 : Cond.instanceMethod yX1_vanish ∈ Wall := Wi_Wr8 _ (List.mem_of_getElem? (i := 17) rfl)
theorem mw_210 : Cond.selects RX1 yX1_vanish yX1_vanish ∈ Wall := Wi_Wr8 _ (List.mem_of_getElem? (i := 18) rfl)
theorem mw_211 : Cond.code yX1_vanish cX1_vanish 1 none ∈ Wall := Wi_Wr8 _ (List.mem_of_getElem? (i := 19) rfl)
theorem mw_212 : Cond.methodLink RL 22 yX8_part ∈ Wall := Wi_Wr8 _ (List.mem_of_getElem? (i := 20) rfl)
theorem mw_213 : Cond.instanceMethod yX8_part ∈ Wall := Wi_Wr8 _ (List.mem_of_getElem? (i := 21) rfl)
theorem mw_214 : Cond.selects RX8 yX8_part yX8_part ∈ Wall := Wi_Wr8 _ (List.mem_of_getElem? (i := 22) rfl)
theorem mw_215 : Cond.code yX8_part cX8_part 5 (some .int) ∈ Wall := Wi_Wr8 _ (List.mem_of_getElem? (i := 23) rfl)
theorem mw_216 : Cond.methodLink RX8 72 yX8_whyNotPart ∈ Wall := Wi_Wr9 _ (List.mem_of_getElem? (i := 0) rfl)
theorem mw_217 : Cond.instanceMethod yX8_whyNotPart ∈ Wall := Wi_Wr9 _ (List.mem_of_getElem? (i := 1) rfl)
theorem mw_218 : Cond.selects RX8 yX8_whyNotPart yX8_whyNotPart ∈ Wall := Wi_Wr9 _ (List.mem_of_getElem? (i := 2) rfl)
theorem mw_219 : Cond.code yX8_whyNotPart cX8_whyNotPart 5 (some .int) ∈ Wall := Wi_Wr9 _ (List.mem_of_getElem? (i := 3) rfl)
theorem mw_220 : Cond.methodLink RX8 76 yX8_comes ∈ Wall := Wi_Wr9 _ (List.mem_of_getElem? (i := 4) rfl)
theorem mw_221 : Cond.instanceMethod yX8_comes ∈ Wall := Wi_Wr9 _ (List.mem_of_getElem? (i := 5) rfl)
theorem mw_222 : Cond.selects RX8 yX8_comes yX8_comes ∈ Wall := Wi_Wr9 _ (List.mem_of_getElem? (i := 6) rfl)
theorem mw_223 : Cond.code yX8_comes cX8_comes 5 (some .int) ∈ Wall := Wi_Wr9 _ (List.mem_of_getElem? (i := 7) rfl)
theorem mw_224 : Cond.methodLink RX8 42 yX8_at ∈ Wall := Wi_Wr9 _ (List.mem_of_getElem? (i := 8) rfl)
theorem mw_225 : Cond.static yX8_at ∈ Wall := Wi_Wr9 _ (List.mem_of_getElem? (i := 9) rfl)
theorem mw_226 : Cond.code yX8_at cX8_at 2 (some .int) ∈ Wall := Wi_Wr9 _ (List.mem_of_getElem? (i := 10) rfl)
theorem mw_227 : Cond.methodLink RL 23 yX7_takeAway ∈ Wall := Wi_Wr9 _ (List.mem_of_getElem? (i := 11) rfl)
theorem mw_228 : Cond.instanceMethod yX7_takeAway ∈ Wall := Wi_Wr9 _ (List.mem_of_getElem? (i := 12) rfl)
theorem mw_229 : Cond.selects RX7 yX7_takeAway yX7_takeAway ∈ Wall := Wi_Wr9 _ (List.mem_of_getElem? (i := 13) rfl)
theorem mw_230 : Cond.code yX7_takeAway cX7_takeAway 2 (some .int) ∈ Wall := Wi_Wr9 _ (List.mem_of_getElem? (i := 14) rfl)
theorem mw_231 : Cond.methodLink RX7 74 yX5_has ∈ Wall := Wi_Wr9 _ (List.mem_of_getElem? (i := 15) rfl)
theorem mw_232 : Cond.instanceMethod yX5_has ∈ Wall := Wi_Wr9 _ (List.mem_of_getElem? (i := 16) rfl)
theorem mw_233 : Cond.selects RX5 yX5_has yX5_has ∈ Wall := Wi_Wr9 _ (List.mem_of_getElem? (i := 17) rfl)
theorem mw_234 : Cond.code yX5_has cX5_has 2 (some .boolean) ∈ Wall := Wi_Wr9 _ (List.mem_of_getElem? (i := 18) rfl)
theorem mw_235 : Cond.methodLink RX7 80 yX6_removePart ∈ Wall := Wi_Wr9 _ (List.mem_of_getElem? (i := 19) rfl)
theorem mw_236 : Cond.instanceMethod yX6_removePart ∈ Wall := Wi_Wr9 _ (List.mem_of_getElem? (i := 20) rfl)
theorem mw_237 : Cond.selects RX6 yX6_removePart yX6_removePart ∈ Wall := Wi_Wr9 _ (List.mem_of_getElem? (i := 21) rfl)
theorem mw_238 : Cond.code yX6_removePart cX6_removePart 2 (some .int) ∈ Wall := Wi_Wr9 _ (List.mem_of_getElem? (i := 22) rfl)
theorem mw_239 : Cond.methodLink RX6 83 yX5_remove ∈ Wall := Wi_Wr9 _ (List.mem_of_getElem? (i := 23) rfl)
theorem mw_240 : Cond.instanceMethod yX5_remove ∈ Wall := Wi_Wr10 _ (List.mem_of_getElem? (i := 0) rfl)
theorem mw_241 : Cond.selects RX5 yX5_remove yX5_remove ∈ Wall := Wi_Wr10 _ (List.mem_of_getElem? (i := 1) rfl)
theorem mw_242 : Cond.code yX5_remove cX5_remove 3 none ∈ Wall := Wi_Wr10 _ (List.mem_of_getElem? (i := 2) rfl)
theorem mw_243 : Cond.methodLink RX5 24 yX5_has ∈ Wall := Wi_Wr10 _ (List.mem_of_getElem? (i := 3) rfl)
theorem mw_244 : Cond.methodLink RL 27 yX8_takeAway ∈ Wall := Wi_Wr10 _ (List.mem_of_getElem? (i := 4) rfl)
theorem mw_245 : Cond.instanceMethod yX8_takeAway ∈ Wall := Wi_Wr10 _ (List.mem_of_getElem? (i := 5) rfl)
theorem mw_246 : Cond.selects RX8 yX8_takeAway yX8_takeAway ∈ Wall := Wi_Wr10 _ (List.mem_of_getElem? (i := 6) rfl)
theorem mw_247 : Cond.code yX8_takeAway cX8_takeAway 3 (some .int) ∈ Wall := Wi_Wr10 _ (List.mem_of_getElem? (i := 7) rfl)
theorem mw_248 : Cond.methodLink RX8 79 yX8_isPart ∈ Wall := Wi_Wr10 _ (List.mem_of_getElem? (i := 8) rfl)
theorem mw_249 : Cond.instanceMethod yX8_isPart ∈ Wall := Wi_Wr10 _ (List.mem_of_getElem? (i := 9) rfl)
theorem mw_250 : Cond.selects RX8 yX8_isPart yX8_isPart ∈ Wall := Wi_Wr10 _ (List.mem_of_getElem? (i := 10) rfl)
theorem mw_251 : Cond.code yX8_isPart cX8_isPart 2 (some .boolean) ∈ Wall := Wi_Wr10 _ (List.mem_of_getElem? (i := 11) rfl)
theorem mw_252 : Cond.methodLink RL 28 yX7_hoop ∈ Wall := Wi_Wr10 _ (List.mem_of_getElem? (i := 12) rfl)
theorem mw_253 : Cond.instanceMethod yX7_hoop ∈ Wall := Wi_Wr10 _ (List.mem_of_getElem? (i := 13) rfl)
theorem mw_254 : Cond.selects RX7 yX7_hoop yX7_hoop ∈ Wall := Wi_Wr10 _ (List.mem_of_getElem? (i := 14) rfl)
theorem mw_255 : Cond.code yX7_hoop cX7_hoop 2 (some .int) ∈ Wall := Wi_Wr10 _ (List.mem_of_getElem? (i := 15) rfl)
theorem mw_256 : Cond.methodLink RX7 84 yX1_allows ∈ Wall := Wi_Wr10 _ (List.mem_of_getElem? (i := 16) rfl)
theorem mw_257 : Cond.static yX1_allows ∈ Wall := Wi_Wr10 _ (List.mem_of_getElem? (i := 17) rfl)
theorem mw_258 : Cond.code yX1_allows cX1_allows 1 (some .boolean) ∈ Wall := Wi_Wr10 _ (List.mem_of_getElem? (i := 18) rfl)
theorem mw_259 : Cond.methodLink RX7 86 yX6_beginRun ∈ Wall := Wi_Wr10 _ (List.mem_of_getElem? (i := 19) rfl)
theorem mw_260 : Cond.instanceMethod yX6_beginRun ∈ Wall := Wi_Wr10 _ (List.mem_of_getElem? (i := 20) rfl)
theorem mw_261 : Cond.selects RX6 yX6_beginRun yX6_beginRun ∈ Wall := Wi_Wr10 _ (List.mem_of_getElem? (i := 21) rfl)
theorem mw_262 : Cond.code yX6_beginRun cX6_beginRun 2 (some .int) ∈ Wall := Wi_Wr10 _ (List.mem_of_getElem? (i := 22) rfl)
theorem mw_263 : Cond.methodLink RX6 87 yX1_begin ∈ Wall := Wi_Wr10 _ (List.mem_of_getElem? (i := 23) rfl)
theorem mw_264 : Cond.instanceMethod yX1_begin ∈ Wall := Wi_Wr11 _ (List.mem_of_getElem? (i := 0) rfl)
theorem mw_265 : Cond.selects RX1 yX1_begin yX1_begin ∈ Wall := Wi_Wr11 _ (List.mem_of_getElem? (i := 1) rfl)
theorem mw_266 : Cond.code yX1_begin cX1_begin 2 none ∈ Wall := Wi_Wr11 _ (List.mem_of_getElem? (i := 2) rfl)
theorem mw_267 : Cond.methodLink RL 31 yX8_hoop ∈ Wall := Wi_Wr11 _ (List.mem_of_getElem? (i := 3) rfl)
theorem mw_268 : Cond.instanceMethod yX8_hoop ∈ Wall := Wi_Wr11 _ (List.mem_of_getElem? (i := 4) rfl)
theorem mw_269 : Cond.selects RX8 yX8_hoop yX8_hoop ∈ Wall := Wi_Wr11 _ (List.mem_of_getElem? (i := 5) rfl)
theorem mw_270 : Cond.code yX8_hoop cX8_hoop 2 (some .int) ∈ Wall := Wi_Wr11 _ (List.mem_of_getElem? (i := 6) rfl)
theorem mw_271 : Cond.methodLink RX8 83 yX8_begins ∈ Wall := Wi_Wr11 _ (List.mem_of_getElem? (i := 7) rfl)
theorem mw_272 : Cond.instanceMethod yX8_begins ∈ Wall := Wi_Wr11 _ (List.mem_of_getElem? (i := 8) rfl)
theorem mw_273 : Cond.selects RX8 yX8_begins yX8_begins ∈ Wall := Wi_Wr11 _ (List.mem_of_getElem? (i := 9) rfl)
theorem mw_274 : Cond.code yX8_begins cX8_begins 3 none ∈ Wall := Wi_Wr11 _ (List.mem_of_getElem? (i := 10) rfl)
theorem mw_275 : Cond.methodLink RL 32 yX7_roll ∈ Wall := Wi_Wr11 _ (List.mem_of_getElem? (i := 11) rfl)
theorem mw_276 : Cond.instanceMethod yX7_roll ∈ Wall := Wi_Wr11 _ (List.mem_of_getElem? (i := 12) rfl)
theorem mw_277 : Cond.selects RX7 yX7_roll yX7_roll ∈ Wall := Wi_Wr11 _ (List.mem_of_getElem? (i := 13) rfl)
theorem mw_278 : Cond.code yX7_roll cX7_roll 3 (some .int) ∈ Wall := Wi_Wr11 _ (List.mem_of_getElem? (i := 14) rfl)
theorem mw_279 : Cond.methodLink RX7 89 yX6_rollError ∈ Wall := Wi_Wr11 _ (List.mem_of_getElem? (i := 15) rfl)
theorem mw_280 : Cond.instanceMethod yX6_rollError ∈ Wall := Wi_Wr11 _ (List.mem_of_getElem? (i := 16) rfl)
theorem mw_281 : Cond.selects RX6 yX6_rollError yX6_rollError ∈ Wall := Wi_Wr11 _ (List.mem_of_getElem? (i := 17) rfl)
theorem mw_282 : Cond.code yX6_rollError cX6_rollError 2 (some .int) ∈ Wall := Wi_Wr11 _ (List.mem_of_getElem? (i := 18) rfl)
theorem mw_283 : Cond.methodLink RX6 90 yX1_rolls ∈ Wall := Wi_Wr11 _ (List.mem_of_getElem? (i := 19) rfl)
theorem mw_284 : Cond.instanceMethod yX1_rolls ∈ Wall := Wi_Wr11 _ (List.mem_of_getElem? (i := 20) rfl)
theorem mw_285 : Cond.selects RX1 yX1_rolls yX1_rolls ∈ Wall := Wi_Wr11 _ (List.mem_of_getElem? (i := 21) rfl)
theorem mw_286 : Cond.code yX1_rolls cX1_rolls 1 (some .boolean) ∈ Wall := Wi_Wr11 _ (List.mem_of_getElem? (i := 22) rfl)
theorem mw_287 : Cond.methodLink RX7 92 yX6_rollOver ∈ Wall := Wi_Wr11 _ (List.mem_of_getElem? (i := 23) rfl)
theorem mw_288 : Cond.instanceMethod yX6_rollOver ∈ Wall := Wi_Wr12 _ (List.mem_of_getElem? (i := 0) rfl)
theorem mw_289 : Cond.selects RX6 yX6_rollOver yX6_rollOver ∈ Wall := Wi_Wr12 _ (List.mem_of_getElem? (i := 1) rfl)
theorem mw_290 : Cond.code yX6_rollOver cX6_rollOver 2 (some .int) ∈ Wall := Wi_Wr12 _ (List.mem_of_getElem? (i := 2) rfl)
theorem mw_291 : Cond.methodLink RX6 94 yX1_rollOver ∈ Wall := Wi_Wr12 _ (List.mem_of_getElem? (i := 3) rfl)
theorem mw_292 : Cond.instanceMethod yX1_rollOver ∈ Wall := Wi_Wr12 _ (List.mem_of_getElem? (i := 4) rfl)
theorem mw_293 : Cond.selects RX1 yX1_rollOver yX1_rollOver ∈ Wall := Wi_Wr12 _ (List.mem_of_getElem? (i := 5) rfl)
theorem mw_294 : Cond.code yX1_rollOver cX1_rollOver 5 none ∈ Wall := Wi_Wr12 _ (List.mem_of_getElem? (i := 6) rfl)
theorem mw_295 : Cond.methodLink RX1 50 yX1_rolls ∈ Wall := Wi_Wr12 _ (List.mem_of_getElem? (i := 7) rfl)
theorem mw_296 : Cond.methodLink RX1 54 yX5_has ∈ Wall := Wi_Wr12 _ (List.mem_of_getElem? (i := 8) rfl)
theorem mw_297 : Cond.methodLink RX1 60 yX5_entry ∈ Wall := Wi_Wr12 _ (List.mem_of_getElem? (i := 9) rfl)
theorem mw_298 : Cond.instanceMethod yX5_entry ∈ Wall := Wi_Wr12 _ (List.mem_of_getElem? (i := 10) rfl)
theorem mw_299 : Cond.selects RX5 yX5_entry yX5_entry ∈ Wall := Wi_Wr12 _ (List.mem_of_getElem? (i := 11) rfl)
theorem mw_300 : Cond.code yX5_entry cX5_entry 3 (some .int) ∈ Wall := Wi_Wr12 _ (List.mem_of_getElem? (i := 12) rfl)
theorem mw_301 : Cond.methodLink RX1 64 yX1_meet ∈ Wall := Wi_Wr12 _ (List.mem_of_getElem? (i := 13) rfl)
theorem mw_302 : Cond.instanceMethod yX1_meet ∈ Wall := Wi_Wr12 _ (List.mem_of_getElem? (i := 14) rfl)
theorem mw_303 : Cond.selects RX1 yX1_meet yX1_meet ∈ Wall := Wi_Wr12 _ (List.mem_of_getElem? (i := 15) rfl)
theorem mw_304 : Cond.code yX1_meet cX1_meet 4 none ∈ Wall := Wi_Wr12 _ (List.mem_of_getElem? (i := 16) rfl)
theorem mw_305 : Cond.methodLink RX1 68 yX4_value ∈ Wall := Wi_Wr12 _ (List.mem_of_getElem? (i := 17) rfl)
theorem mw_306 : Cond.methodLink RX1 78 yX1_dropBy ∈ Wall := Wi_Wr12 _ (List.mem_of_getElem? (i := 18) rfl)
theorem mw_307 : Cond.instanceMethod yX1_dropBy ∈ Wall := Wi_Wr12 _ (List.mem_of_getElem? (i := 19) rfl)
theorem mw_308 : Cond.selects RX1 yX1_dropBy yX1_dropBy ∈ Wall := Wi_Wr12 _ (List.mem_of_getElem? (i := 20) rfl)
theorem mw_309 : Cond.code yX1_dropBy cX1_dropBy 3 none ∈ Wall := Wi_Wr12 _ (List.mem_of_getElem? (i := 21) rfl)
theorem mw_310 : Cond.methodLink RX1 47 yX1_speedUpBy ∈ Wall := Wi_Wr12 _ (List.mem_of_getElem? (i := 22) rfl)
theorem mw_311 : Cond.instanceMethod yX1_speedUpBy ∈ Wall := Wi_Wr12 _ (List.mem_of_getElem? (i := 23) rfl)
theorem mw_312 : Cond.selects RX1 yX1_speedUpBy yX1_speedUpBy ∈ Wall := Wi_Wr13 _ (List.mem_of_getElem? (i := 0) rfl)
theorem mw_313 : Cond.code yX1_speedUpBy cX1_speedUpBy 2 none ∈ Wall := Wi_Wr13 _ (List.mem_of_getElem? (i := 1) rfl)
theorem mw_314 : Cond.methodLink RX1 96 Lib.Math.min.name ∈ Wall := Wi_Wr13 _ (List.mem_of_getElem? (i := 2) rfl)
theorem mw_315 : Cond.methodLink RX1 43 yX1_shakeBy ∈ Wall := Wi_Wr13 _ (List.mem_of_getElem? (i := 3) rfl)
theorem mw_316 : Cond.instanceMethod yX1_shakeBy ∈ Wall := Wi_Wr13 _ (List.mem_of_getElem? (i := 4) rfl)
theorem mw_317 : Cond.selects RX1 yX1_shakeBy yX1_shakeBy ∈ Wall := Wi_Wr13 _ (List.mem_of_getElem? (i := 5) rfl)
theorem mw_318 : Cond.code yX1_shakeBy cX1_shakeBy 2 none ∈ Wall := Wi_Wr13 _ (List.mem_of_getElem? (i := 6) rfl)
theorem mw_319 : Cond.methodLink RX1 82 yX1_rollAlong ∈ Wall := Wi_Wr13 _ (List.mem_of_getElem? (i := 7) rfl)
theorem mw_320 : Cond.instanceMethod yX1_rollAlong ∈ Wall := Wi_Wr13 _ (List.mem_of_getElem? (i := 8) rfl)
theorem mw_321 : Cond.selects RX1 yX1_rollAlong yX1_rollAlong ∈ Wall := Wi_Wr13 _ (List.mem_of_getElem? (i := 9) rfl)
theorem mw_322 : Cond.code yX1_rollAlong cX1_rollAlong 4 none ∈ Wall := Wi_Wr13 _ (List.mem_of_getElem? (i := 10) rfl)
theorem mw_323 : Cond.methodLink RX1 90 Lib.Math.max.name ∈ Wall := Wi_Wr13 _ (List.mem_of_getElem? (i := 11) rfl)
theorem mw_324 : Cond.static Lib.Math.max.name ∈ Wall := Wi_Wr13 _ (List.mem_of_getElem? (i := 12) rfl)
theorem mw_325 : Cond.code Lib.Math.max.name Lib.Math.max.code 2 (some .int) ∈ Wall := Wi_Wr13 _ (List.mem_of_getElem? (i := 13) rfl)
theorem mw_326 : Cond.methodLink RX1 93 yX1_rightItselfBy ∈ Wall := Wi_Wr13 _ (List.mem_of_getElem? (i := 14) rfl)
theorem mw_327 : Cond.instanceMethod yX1_rightItselfBy ∈ Wall := Wi_Wr13 _ (List.mem_of_getElem? (i := 15) rfl)
theorem mw_328 : Cond.selects RX1 yX1_rightItselfBy yX1_rightItselfBy ∈ Wall := Wi_Wr13 _ (List.mem_of_getElem? (i := 16) rfl)
theorem mw_329 : Cond.code yX1_rightItselfBy cX1_rightItselfBy 2 none ∈ Wall := Wi_Wr13 _ (List.mem_of_getElem? (i := 17) rfl)
theorem mw_330 : Cond.methodLink RX1 74 yX1_goBehind ∈ Wall := Wi_Wr13 _ (List.mem_of_getElem? (i := 18) rfl)
theorem mw_331 : Cond.instanceMethod yX1_goBehind ∈ Wall := Wi_Wr13 _ (List.mem_of_getElem? (i := 19) rfl)
theorem mw_332 : Cond.selects RX1 yX1_goBehind yX1_goBehind ∈ Wall := Wi_Wr13 _ (List.mem_of_getElem? (i := 20) rfl)
theorem mw_333 : Cond.code yX1_goBehind cX1_goBehind 4 none ∈ Wall := Wi_Wr13 _ (List.mem_of_getElem? (i := 21) rfl)
theorem mw_334 : Cond.methodLink RX1 85 Lib.Math.abs.name ∈ Wall := Wi_Wr13 _ (List.mem_of_getElem? (i := 22) rfl)
theorem mw_335 : Cond.static Lib.Math.abs.name ∈ Wall := Wi_Wr13 _ (List.mem_of_getElem? (i := 23) rfl)
theorem mw_336 : Cond.code Lib.Math.abs.name Lib.Math.abs.code 1 (some .int) ∈ Wall := Wi_Wr14 _ (List.mem_of_getElem? (i := 0) rfl)
theorem mw_337 : Cond.methodLink RX6 98 yX6_noteEnd ∈ Wall := Wi_Wr14 _ (List.mem_of_getElem? (i := 1) rfl)
theorem mw_338 : Cond.instanceMethod yX6_noteEnd ∈ Wall := Wi_Wr14 _ (List.mem_of_getElem? (i := 2) rfl)
theorem mw_339 : Cond.selects RX6 yX6_noteEnd yX6_noteEnd ∈ Wall := Wi_Wr14 _ (List.mem_of_getElem? (i := 3) rfl)
theorem mw_340 : Cond.code yX6_noteEnd cX6_noteEnd 1 none ∈ Wall := Wi_Wr14 _ (List.mem_of_getElem? (i := 4) rfl)
theorem mw_341 : Cond.methodLink RX6 107 yX5_noteEnd ∈ Wall := Wi_Wr14 _ (List.mem_of_getElem? (i := 5) rfl)
theorem mw_342 : Cond.instanceMethod yX5_noteEnd ∈ Wall := Wi_Wr14 _ (List.mem_of_getElem? (i := 6) rfl)
theorem mw_343 : Cond.selects RX5 yX5_noteEnd yX5_noteEnd ∈ Wall := Wi_Wr14 _ (List.mem_of_getElem? (i := 7) rfl)
theorem mw_344 : Cond.code yX5_noteEnd cX5_noteEnd 3 none ∈ Wall := Wi_Wr14 _ (List.mem_of_getElem? (i := 8) rfl)
theorem mw_345 : Cond.methodLink RX6 110 yX3_add ∈ Wall := Wi_Wr14 _ (List.mem_of_getElem? (i := 9) rfl)
theorem mw_346 : Cond.instanceMethod yX3_add ∈ Wall := Wi_Wr14 _ (List.mem_of_getElem? (i := 10) rfl)
theorem mw_347 : Cond.selects RX3 yX3_add yX3_add ∈ Wall := Wi_Wr14 _ (List.mem_of_getElem? (i := 11) rfl)
theorem mw_348 : Cond.code yX3_add cX3_add 3 none ∈ Wall := Wi_Wr14 _ (List.mem_of_getElem? (i := 12) rfl)
theorem mw_349 : Cond.methodLink RX3 42 Lib.Math.min.name ∈ Wall := Wi_Wr14 _ (List.mem_of_getElem? (i := 13) rfl)
theorem mw_350 : Cond.methodLink RL 35 yX8_roll ∈ Wall := Wi_Wr14 _ (List.mem_of_getElem? (i := 14) rfl)
theorem mw_351 : Cond.instanceMethod yX8_roll ∈ Wall := Wi_Wr14 _ (List.mem_of_getElem? (i := 15) rfl)
theorem mw_352 : Cond.selects RX8 yX8_roll yX8_roll ∈ Wall := Wi_Wr14 _ (List.mem_of_getElem? (i := 16) rfl)
theorem mw_353 : Cond.code yX8_roll cX8_roll 3 (some .int) ∈ Wall := Wi_Wr14 _ (List.mem_of_getElem? (i := 17) rfl)
theorem mw_354 : Cond.methodLink RX8 90 yX8_whyNotRoll ∈ Wall := Wi_Wr14 _ (List.mem_of_getElem? (i := 18) rfl)
theorem mw_355 : Cond.instanceMethod yX8_whyNotRoll ∈ Wall := Wi_Wr14 _ (List.mem_of_getElem? (i := 19) rfl)
theorem mw_356 : Cond.selects RX8 yX8_whyNotRoll yX8_whyNotRoll ∈ Wall := Wi_Wr14 _ (List.mem_of_getElem? (i := 20) rfl)
theorem mw_357 : Cond.code yX8_whyNotRoll cX8_whyNotRoll 2 (some .int) ∈ Wall := Wi_Wr14 _ (List.mem_of_getElem? (i := 21) rfl)
theorem mw_358 : Cond.methodLink RX8 86 yX8_isRolling ∈ Wall := Wi_Wr14 _ (List.mem_of_getElem? (i := 22) rfl)
theorem mw_359 : Cond.instanceMethod yX8_isRolling ∈ Wall := Wi_Wr14 _ (List.mem_of_getElem? (i := 23) rfl)
theorem mw_360 : Cond.selects RX8 yX8_isRolling yX8_isRolling ∈ Wall := Wi_Wr15 _ (List.mem_of_getElem? (i := 0) rfl)
theorem mw_361 : Cond.code yX8_isRolling cX8_isRolling 1 (some .boolean) ∈ Wall := Wi_Wr15 _ (List.mem_of_getElem? (i := 1) rfl)
theorem mw_362 : Cond.methodLink RX8 93 yX8_rolls ∈ Wall := Wi_Wr15 _ (List.mem_of_getElem? (i := 2) rfl)
theorem mw_363 : Cond.instanceMethod yX8_rolls ∈ Wall := Wi_Wr15 _ (List.mem_of_getElem? (i := 3) rfl)
theorem mw_364 : Cond.selects RX8 yX8_rolls yX8_rolls ∈ Wall := Wi_Wr15 _ (List.mem_of_getElem? (i := 4) rfl)
theorem mw_365 : Cond.code yX8_rolls cX8_rolls 5 (some .int) ∈ Wall := Wi_Wr15 _ (List.mem_of_getElem? (i := 5) rfl)
theorem mw_366 : Cond.methodLink RX8 59 yX8_passesPart ∈ Wall := Wi_Wr15 _ (List.mem_of_getElem? (i := 6) rfl)
theorem mw_367 : Cond.instanceMethod yX8_passesPart ∈ Wall := Wi_Wr15 _ (List.mem_of_getElem? (i := 7) rfl)
theorem mw_368 : Cond.selects RX8 yX8_passesPart yX8_passesPart ∈ Wall := Wi_Wr15 _ (List.mem_of_getElem? (i := 8) rfl)
theorem mw_369 : Cond.code yX8_passesPart cX8_passesPart 5 (some .int) ∈ Wall := Wi_Wr15 _ (List.mem_of_getElem? (i := 9) rfl)
theorem mw_370 : Cond.fieldLink RX8 52 "HoopStairsModel" "greatest" "I" ∈ Wall := Wi_Wr15 _ (List.mem_of_getElem? (i := 10) rfl)
theorem mw_371 : Cond.methodLink RX8 45 yX8_drops ∈ Wall := Wi_Wr15 _ (List.mem_of_getElem? (i := 11) rfl)
theorem mw_372 : Cond.instanceMethod yX8_drops ∈ Wall := Wi_Wr15 _ (List.mem_of_getElem? (i := 12) rfl)
theorem mw_373 : Cond.selects RX8 yX8_drops yX8_drops ∈ Wall := Wi_Wr15 _ (List.mem_of_getElem? (i := 13) rfl)
theorem mw_374 : Cond.code yX8_drops cX8_drops 4 none ∈ Wall := Wi_Wr15 _ (List.mem_of_getElem? (i := 14) rfl)
theorem mw_375 : Cond.methodLink RX8 34 yX8_less ∈ Wall := Wi_Wr15 _ (List.mem_of_getElem? (i := 15) rfl)
theorem mw_376 : Cond.static yX8_less ∈ Wall := Wi_Wr15 _ (List.mem_of_getElem? (i := 16) rfl)
theorem mw_377 : Cond.code yX8_less cX8_less 2 (some .int) ∈ Wall := Wi_Wr15 _ (List.mem_of_getElem? (i := 17) rfl)
theorem mw_378 : Cond.methodLink RX8 49 yX8_lands ∈ Wall := Wi_Wr15 _ (List.mem_of_getElem? (i := 18) rfl)
theorem mw_379 : Cond.instanceMethod yX8_lands ∈ Wall := Wi_Wr15 _ (List.mem_of_getElem? (i := 19) rfl)
theorem mw_380 : Cond.selects RX8 yX8_lands yX8_lands ∈ Wall := Wi_Wr15 _ (List.mem_of_getElem? (i := 20) rfl)
theorem mw_381 : Cond.code yX8_lands cX8_lands 6 none ∈ Wall := Wi_Wr15 _ (List.mem_of_getElem? (i := 21) rfl)
theorem mw_382 : Cond.methodLink RX8 38 yX8_size ∈ Wall := Wi_Wr15 _ (List.mem_of_getElem? (i := 22) rfl)
theorem mw_383 : Cond.static yX8_size ∈ Wall := Wi_Wr15 _ (List.mem_of_getElem? (i := 23) rfl)
theorem mw_384 : Cond.code yX8_size cX8_size 1 (some .int) ∈ Wall := Wi_Wr16 _ (List.mem_of_getElem? (i := 0) rfl)
theorem mw_385 : Cond.methodLink RX8 62 yX8_ends ∈ Wall := Wi_Wr16 _ (List.mem_of_getElem? (i := 1) rfl)
theorem mw_386 : Cond.instanceMethod yX8_ends ∈ Wall := Wi_Wr16 _ (List.mem_of_getElem? (i := 2) rfl)
theorem mw_387 : Cond.selects RX8 yX8_ends yX8_ends ∈ Wall := Wi_Wr16 _ (List.mem_of_getElem? (i := 3) rfl)
theorem mw_388 : Cond.code yX8_ends cX8_ends 3 none ∈ Wall := Wi_Wr16 _ (List.mem_of_getElem? (i := 4) rfl)
theorem mw_389 : Cond.methodLink RX8 55 yX8_lists ∈ Wall := Wi_Wr16 _ (List.mem_of_getElem? (i := 5) rfl)
theorem mw_390 : Cond.instanceMethod yX8_lists ∈ Wall := Wi_Wr16 _ (List.mem_of_getElem? (i := 6) rfl)
theorem mw_391 : Cond.selects RX8 yX8_lists yX8_lists ∈ Wall := Wi_Wr16 _ (List.mem_of_getElem? (i := 7) rfl)
theorem mw_392 : Cond.code yX8_lists cX8_lists 3 none ∈ Wall := Wi_Wr16 _ (List.mem_of_getElem? (i := 8) rfl)
theorem mw_393 : Cond.methodLink RL 36 yX7_tap ∈ Wall := Wi_Wr16 _ (List.mem_of_getElem? (i := 9) rfl)
theorem mw_394 : Cond.instanceMethod yX7_tap ∈ Wall := Wi_Wr16 _ (List.mem_of_getElem? (i := 10) rfl)
theorem mw_395 : Cond.selects RX7 yX7_tap yX7_tap ∈ Wall := Wi_Wr16 _ (List.mem_of_getElem? (i := 11) rfl)
theorem mw_396 : Cond.code yX7_tap cX7_tap 3 (some .int) ∈ Wall := Wi_Wr16 _ (List.mem_of_getElem? (i := 12) rfl)
theorem mw_397 : Cond.methodLink RX7 95 yX6_tapError ∈ Wall := Wi_Wr16 _ (List.mem_of_getElem? (i := 13) rfl)
theorem mw_398 : Cond.instanceMethod yX6_tapError ∈ Wall := Wi_Wr16 _ (List.mem_of_getElem? (i := 14) rfl)
theorem mw_399 : Cond.selects RX6 yX6_tapError yX6_tapError ∈ Wall := Wi_Wr16 _ (List.mem_of_getElem? (i := 15) rfl)
theorem mw_400 : Cond.code yX6_tapError cX6_tapError 2 (some .int) ∈ Wall := Wi_Wr16 _ (List.mem_of_getElem? (i := 16) rfl)
theorem mw_401 : Cond.methodLink RX7 98 yX6_tapFrom ∈ Wall := Wi_Wr16 _ (List.mem_of_getElem? (i := 17) rfl)
theorem mw_402 : Cond.instanceMethod yX6_tapFrom ∈ Wall := Wi_Wr16 _ (List.mem_of_getElem? (i := 18) rfl)
theorem mw_403 : Cond.selects RX6 yX6_tapFrom yX6_tapFrom ∈ Wall := Wi_Wr16 _ (List.mem_of_getElem? (i := 19) rfl)
theorem mw_404 : Cond.code yX6_tapFrom cX6_tapFrom 2 (some .int) ∈ Wall := Wi_Wr16 _ (List.mem_of_getElem? (i := 20) rfl)
theorem mw_405 : Cond.methodLink RX6 113 yX4_value ∈ Wall := Wi_Wr16 _ (List.mem_of_getElem? (i := 21) rfl)
theorem mw_406 : Cond.methodLink RX6 117 yX1_takeTap ∈ Wall := Wi_Wr16 _ (List.mem_of_getElem? (i := 22) rfl)
theorem mw_407 : Cond.instanceMethod yX1_takeTap ∈ Wall := Wi_Wr16 _ (List.mem_of_getElem? (i := 23) rfl)
theorem mw_408 : Cond.selects RX1 yX1_takeTap yX1_takeTap ∈ Wall := Wi_Wr17 _ (List.mem_of_getElem? (i := 0) rfl)
theorem mw_409 : Cond.code yX1_takeTap cX1_takeTap 3 none ∈ Wall := Wi_Wr17 _ (List.mem_of_getElem? (i := 1) rfl)
theorem mw_410 : Cond.methodLink RL 39 yX8_tap ∈ Wall := Wi_Wr17 _ (List.mem_of_getElem? (i := 2) rfl)
theorem mw_411 : Cond.instanceMethod yX8_tap ∈ Wall := Wi_Wr17 _ (List.mem_of_getElem? (i := 3) rfl)
theorem mw_412 : Cond.selects RX8 yX8_tap yX8_tap ∈ Wall := Wi_Wr17 _ (List.mem_of_getElem? (i := 4) rfl)
theorem mw_413 : Cond.code yX8_tap cX8_tap 2 (some .int) ∈ Wall := Wi_Wr17 _ (List.mem_of_getElem? (i := 5) rfl)
theorem mw_414 : Cond.methodLink RX8 96 yX8_taps ∈ Wall := Wi_Wr17 _ (List.mem_of_getElem? (i := 6) rfl)
theorem mw_415 : Cond.instanceMethod yX8_taps ∈ Wall := Wi_Wr17 _ (List.mem_of_getElem? (i := 7) rfl)
theorem mw_416 : Cond.selects RX8 yX8_taps yX8_taps ∈ Wall := Wi_Wr17 _ (List.mem_of_getElem? (i := 8) rfl)
theorem mw_417 : Cond.code yX8_taps cX8_taps 3 none ∈ Wall := Wi_Wr17 _ (List.mem_of_getElem? (i := 9) rfl)
theorem mw_418 : Cond.methodLink RL 40 yX7_push ∈ Wall := Wi_Wr17 _ (List.mem_of_getElem? (i := 10) rfl)
theorem mw_419 : Cond.instanceMethod yX7_push ∈ Wall := Wi_Wr17 _ (List.mem_of_getElem? (i := 11) rfl)
theorem mw_420 : Cond.selects RX7 yX7_push yX7_push ∈ Wall := Wi_Wr17 _ (List.mem_of_getElem? (i := 12) rfl)
theorem mw_421 : Cond.code yX7_push cX7_push 2 (some .int) ∈ Wall := Wi_Wr17 _ (List.mem_of_getElem? (i := 13) rfl)
theorem mw_422 : Cond.methodLink RX7 101 yX6_pushError ∈ Wall := Wi_Wr17 _ (List.mem_of_getElem? (i := 14) rfl)
theorem mw_423 : Cond.instanceMethod yX6_pushError ∈ Wall := Wi_Wr17 _ (List.mem_of_getElem? (i := 15) rfl)
theorem mw_424 : Cond.selects RX6 yX6_pushError yX6_pushError ∈ Wall := Wi_Wr17 _ (List.mem_of_getElem? (i := 16) rfl)
theorem mw_425 : Cond.code yX6_pushError cX6_pushError 1 (some .int) ∈ Wall := Wi_Wr17 _ (List.mem_of_getElem? (i := 17) rfl)
theorem mw_426 : Cond.methodLink RX7 105 yX6_pushOn ∈ Wall := Wi_Wr17 _ (List.mem_of_getElem? (i := 18) rfl)
theorem mw_427 : Cond.instanceMethod yX6_pushOn ∈ Wall := Wi_Wr17 _ (List.mem_of_getElem? (i := 19) rfl)
theorem mw_428 : Cond.selects RX6 yX6_pushOn yX6_pushOn ∈ Wall := Wi_Wr17 _ (List.mem_of_getElem? (i := 20) rfl)
theorem mw_429 : Cond.code yX6_pushOn cX6_pushOn 1 (some .int) ∈ Wall := Wi_Wr17 _ (List.mem_of_getElem? (i := 21) rfl)
theorem mw_430 : Cond.methodLink RX6 123 yX1_takePush ∈ Wall := Wi_Wr17 _ (List.mem_of_getElem? (i := 22) rfl)
theorem mw_431 : Cond.instanceMethod yX1_takePush ∈ Wall := Wi_Wr17 _ (List.mem_of_getElem? (i := 23) rfl)
theorem mw_432 : Cond.selects RX1 yX1_takePush yX1_takePush ∈ Wall := Wi_Wr18 _ (List.mem_of_getElem? (i := 0) rfl)
theorem mw_433 : Cond.code yX1_takePush cX1_takePush 1 none ∈ Wall := Wi_Wr18 _ (List.mem_of_getElem? (i := 1) rfl)
theorem mw_434 : Cond.methodLink RL 44 yX8_push ∈ Wall := Wi_Wr18 _ (List.mem_of_getElem? (i := 2) rfl)
theorem mw_435 : Cond.instanceMethod yX8_push ∈ Wall := Wi_Wr18 _ (List.mem_of_getElem? (i := 3) rfl)
theorem mw_436 : Cond.selects RX8 yX8_push yX8_push ∈ Wall := Wi_Wr18 _ (List.mem_of_getElem? (i := 4) rfl)
theorem mw_437 : Cond.code yX8_push cX8_push 1 (some .int) ∈ Wall := Wi_Wr18 _ (List.mem_of_getElem? (i := 5) rfl)
theorem mw_438 : Cond.methodLink RX8 99 yX8_pushes ∈ Wall := Wi_Wr18 _ (List.mem_of_getElem? (i := 6) rfl)
theorem mw_439 : Cond.instanceMethod yX8_pushes ∈ Wall := Wi_Wr18 _ (List.mem_of_getElem? (i := 7) rfl)
theorem mw_440 : Cond.selects RX8 yX8_pushes yX8_pushes ∈ Wall := Wi_Wr18 _ (List.mem_of_getElem? (i := 8) rfl)
theorem mw_441 : Cond.code yX8_pushes cX8_pushes 1 (some .int) ∈ Wall := Wi_Wr18 _ (List.mem_of_getElem? (i := 9) rfl)
theorem mw_442 : Cond.methodLink RL 45 yX7_of ∈ Wall := Wi_Wr18 _ (List.mem_of_getElem? (i := 10) rfl)
theorem mw_443 : Cond.instanceMethod yX7_of ∈ Wall := Wi_Wr18 _ (List.mem_of_getElem? (i := 11) rfl)
theorem mw_444 : Cond.selects RX7 yX7_of yX7_of ∈ Wall := Wi_Wr18 _ (List.mem_of_getElem? (i := 12) rfl)
theorem mw_445 : Cond.code yX7_of cX7_of 3 (some .int) ∈ Wall := Wi_Wr18 _ (List.mem_of_getElem? (i := 13) rfl)
theorem mw_446 : Cond.methodLink RX7 108 yX5_entry ∈ Wall := Wi_Wr18 _ (List.mem_of_getElem? (i := 14) rfl)
theorem mw_447 : Cond.methodLink RL 48 yX8_of ∈ Wall := Wi_Wr18 _ (List.mem_of_getElem? (i := 15) rfl)
theorem mw_448 : Cond.instanceMethod yX8_of ∈ Wall := Wi_Wr18 _ (List.mem_of_getElem? (i := 16) rfl)
theorem mw_449 : Cond.selects RX8 yX8_of yX8_of ∈ Wall := Wi_Wr18 _ (List.mem_of_getElem? (i := 17) rfl)
theorem mw_450 : Cond.code yX8_of cX8_of 3 (some .int) ∈ Wall := Wi_Wr18 _ (List.mem_of_getElem? (i := 18) rfl)
theorem mw_451 : Cond.methodLink RL 49 yX7_ofHoop ∈ Wall := Wi_Wr18 _ (List.mem_of_getElem? (i := 19) rfl)
theorem mw_452 : Cond.instanceMethod yX7_ofHoop ∈ Wall := Wi_Wr18 _ (List.mem_of_getElem? (i := 20) rfl)
theorem mw_453 : Cond.selects RX7 yX7_ofHoop yX7_ofHoop ∈ Wall := Wi_Wr18 _ (List.mem_of_getElem? (i := 21) rfl)
theorem mw_454 : Cond.code yX7_ofHoop cX7_ofHoop 2 (some .int) ∈ Wall := Wi_Wr18 _ (List.mem_of_getElem? (i := 22) rfl)
theorem mw_455 : Cond.methodLink RX7 118 yX7_aboutHoop ∈ Wall := Wi_Wr18 _ (List.mem_of_getElem? (i := 23) rfl)
theorem mw_456 : Cond.static yX7_aboutHoop ∈ Wall := Wi_Wr19 _ (List.mem_of_getElem? (i := 0) rfl)
theorem mw_457 : Cond.code yX7_aboutHoop cX7_aboutHoop 2 (some .int) ∈ Wall := Wi_Wr19 _ (List.mem_of_getElem? (i := 1) rfl)
theorem mw_458 : Cond.methodLink RL 52 yX8_ofHoop ∈ Wall := Wi_Wr19 _ (List.mem_of_getElem? (i := 2) rfl)
theorem mw_459 : Cond.instanceMethod yX8_ofHoop ∈ Wall := Wi_Wr19 _ (List.mem_of_getElem? (i := 3) rfl)
theorem mw_460 : Cond.selects RX8 yX8_ofHoop yX8_ofHoop ∈ Wall := Wi_Wr19 _ (List.mem_of_getElem? (i := 4) rfl)
theorem mw_461 : Cond.code yX8_ofHoop cX8_ofHoop 2 (some .int) ∈ Wall := Wi_Wr19 _ (List.mem_of_getElem? (i := 5) rfl)
theorem mw_462 : Cond.methodLink RL 53 yX7_run ∈ Wall := Wi_Wr19 _ (List.mem_of_getElem? (i := 6) rfl)
theorem mw_463 : Cond.instanceMethod yX7_run ∈ Wall := Wi_Wr19 _ (List.mem_of_getElem? (i := 7) rfl)
theorem mw_464 : Cond.selects RX7 yX7_run yX7_run ∈ Wall := Wi_Wr19 _ (List.mem_of_getElem? (i := 8) rfl)
theorem mw_465 : Cond.code yX7_run cX7_run 3 (some .int) ∈ Wall := Wi_Wr19 _ (List.mem_of_getElem? (i := 9) rfl)
theorem mw_466 : Cond.methodLink RX7 126 yX3_has ∈ Wall := Wi_Wr19 _ (List.mem_of_getElem? (i := 10) rfl)
theorem mw_467 : Cond.instanceMethod yX3_has ∈ Wall := Wi_Wr19 _ (List.mem_of_getElem? (i := 11) rfl)
theorem mw_468 : Cond.selects RX3 yX3_has yX3_has ∈ Wall := Wi_Wr19 _ (List.mem_of_getElem? (i := 12) rfl)
theorem mw_469 : Cond.code yX3_has cX3_has 2 (some .boolean) ∈ Wall := Wi_Wr19 _ (List.mem_of_getElem? (i := 13) rfl)
theorem mw_470 : Cond.methodLink RX7 129 yX3_entry ∈ Wall := Wi_Wr19 _ (List.mem_of_getElem? (i := 14) rfl)
theorem mw_471 : Cond.instanceMethod yX3_entry ∈ Wall := Wi_Wr19 _ (List.mem_of_getElem? (i := 15) rfl)
theorem mw_472 : Cond.selects RX3 yX3_entry yX3_entry ∈ Wall := Wi_Wr19 _ (List.mem_of_getElem? (i := 16) rfl)
theorem mw_473 : Cond.code yX3_entry cX3_entry 3 (some .int) ∈ Wall := Wi_Wr19 _ (List.mem_of_getElem? (i := 17) rfl)
theorem mw_474 : Cond.methodLink RX3 24 yX3_has ∈ Wall := Wi_Wr19 _ (List.mem_of_getElem? (i := 18) rfl)
theorem mw_475 : Cond.methodLink RL 56 yX8_run ∈ Wall := Wi_Wr19 _ (List.mem_of_getElem? (i := 19) rfl)
theorem mw_476 : Cond.instanceMethod yX8_run ∈ Wall := Wi_Wr19 _ (List.mem_of_getElem? (i := 20) rfl)
theorem mw_477 : Cond.selects RX8 yX8_run yX8_run ∈ Wall := Wi_Wr19 _ (List.mem_of_getElem? (i := 21) rfl)
theorem mw_478 : Cond.code yX8_run cX8_run 3 (some .int) ∈ Wall := Wi_Wr19 _ (List.mem_of_getElem? (i := 22) rfl)
theorem mw_479 : Cond.methodLink RL 57 yX7_count ∈ Wall := Wi_Wr19 _ (List.mem_of_getElem? (i := 23) rfl)
theorem mw_480 : Cond.instanceMethod yX7_count ∈ Wall := Wi_Wr20 _ (List.mem_of_getElem? (i := 0) rfl)
theorem mw_481 : Cond.selects RX7 yX7_count yX7_count ∈ Wall := Wi_Wr20 _ (List.mem_of_getElem? (i := 1) rfl)
theorem mw_482 : Cond.code yX7_count cX7_count 2 (some .int) ∈ Wall := Wi_Wr20 _ (List.mem_of_getElem? (i := 2) rfl)
theorem mw_483 : Cond.methodLink RX7 135 yX4_value ∈ Wall := Wi_Wr20 _ (List.mem_of_getElem? (i := 3) rfl)
theorem mw_484 : Cond.methodLink RX7 138 yX6_number ∈ Wall := Wi_Wr20 _ (List.mem_of_getElem? (i := 4) rfl)
theorem mw_485 : Cond.instanceMethod yX6_number ∈ Wall := Wi_Wr20 _ (List.mem_of_getElem? (i := 5) rfl)
theorem mw_486 : Cond.selects RX6 yX6_number yX6_number ∈ Wall := Wi_Wr20 _ (List.mem_of_getElem? (i := 6) rfl)
theorem mw_487 : Cond.code yX6_number cX6_number 2 (some .int) ∈ Wall := Wi_Wr20 _ (List.mem_of_getElem? (i := 7) rfl)
theorem mw_488 : Cond.methodLink RX6 129 yX5_narrowestGate ∈ Wall := Wi_Wr20 _ (List.mem_of_getElem? (i := 8) rfl)
theorem mw_489 : Cond.instanceMethod yX5_narrowestGate ∈ Wall := Wi_Wr20 _ (List.mem_of_getElem? (i := 9) rfl)
theorem mw_490 : Cond.selects RX5 yX5_narrowestGate yX5_narrowestGate ∈ Wall := Wi_Wr20 _ (List.mem_of_getElem? (i := 10) rfl)
theorem mw_491 : Cond.code yX5_narrowestGate cX5_narrowestGate 4 (some .int) ∈ Wall := Wi_Wr20 _ (List.mem_of_getElem? (i := 11) rfl)
theorem mw_492 : Cond.methodLink RX5 30 yX5_entry ∈ Wall := Wi_Wr20 _ (List.mem_of_getElem? (i := 12) rfl)
theorem mw_493 : Cond.methodLink RX6 133 yX5_sumOf ∈ Wall := Wi_Wr20 _ (List.mem_of_getElem? (i := 13) rfl)
theorem mw_494 : Cond.instanceMethod yX5_sumOf ∈ Wall := Wi_Wr20 _ (List.mem_of_getElem? (i := 14) rfl)
theorem mw_495 : Cond.selects RX5 yX5_sumOf yX5_sumOf ∈ Wall := Wi_Wr20 _ (List.mem_of_getElem? (i := 15) rfl)
theorem mw_496 : Cond.code yX5_sumOf cX5_sumOf 4 (some .int) ∈ Wall := Wi_Wr20 _ (List.mem_of_getElem? (i := 16) rfl)
theorem mw_497 : Cond.methodLink RL 60 yX8_count ∈ Wall := Wi_Wr20 _ (List.mem_of_getElem? (i := 17) rfl)
theorem mw_498 : Cond.instanceMethod yX8_count ∈ Wall := Wi_Wr20 _ (List.mem_of_getElem? (i := 18) rfl)
theorem mw_499 : Cond.selects RX8 yX8_count yX8_count ∈ Wall := Wi_Wr20 _ (List.mem_of_getElem? (i := 19) rfl)
theorem mw_500 : Cond.code yX8_count cX8_count 2 (some .int) ∈ Wall := Wi_Wr20 _ (List.mem_of_getElem? (i := 20) rfl)
theorem mw_501 : Cond.fieldLink RX8 106 "HoopStairsModel" "length" "I" ∈ Wall := Wi_Wr20 _ (List.mem_of_getElem? (i := 21) rfl)
theorem mw_502 : Cond.methodLink RX8 103 yX8_ofParts ∈ Wall := Wi_Wr20 _ (List.mem_of_getElem? (i := 22) rfl)
theorem mw_503 : Cond.instanceMethod yX8_ofParts ∈ Wall := Wi_Wr20 _ (List.mem_of_getElem? (i := 23) rfl)
theorem mw_504 : Cond.selects RX8 yX8_ofParts yX8_ofParts ∈ Wall := Wi_Wr21 _ (List.mem_of_getElem? (i := 0) rfl)
theorem mw_505 : Cond.code yX8_ofParts cX8_ofParts 7 (some .int) ∈ Wall := Wi_Wr21 _ (List.mem_of_getElem? (i := 1) rfl)
theorem mw_506 : Cond.methodLink RL 61 yX7_ifRolled ∈ Wall := Wi_Wr21 _ (List.mem_of_getElem? (i := 2) rfl)
theorem mw_507 : Cond.instanceMethod yX7_ifRolled ∈ Wall := Wi_Wr21 _ (List.mem_of_getElem? (i := 3) rfl)
theorem mw_508 : Cond.selects RX7 yX7_ifRolled yX7_ifRolled ∈ Wall := Wi_Wr21 _ (List.mem_of_getElem? (i := 4) rfl)
theorem mw_509 : Cond.code yX7_ifRolled cX7_ifRolled 2 (some .int) ∈ Wall := Wi_Wr21 _ (List.mem_of_getElem? (i := 5) rfl)
theorem mw_510 : Cond.methodLink RX7 165 yX1_rolls ∈ Wall := Wi_Wr21 _ (List.mem_of_getElem? (i := 6) rfl)
theorem mw_511 : Cond.methodLink RX7 169 yX1_copyFrom ∈ Wall := Wi_Wr21 _ (List.mem_of_getElem? (i := 7) rfl)
theorem mw_512 : Cond.methodLink RX7 176 yX1_rollOver ∈ Wall := Wi_Wr21 _ (List.mem_of_getElem? (i := 8) rfl)
theorem mw_513 : Cond.methodLink RL 64 yX8_ifRolled ∈ Wall := Wi_Wr21 _ (List.mem_of_getElem? (i := 9) rfl)
theorem mw_514 : Cond.instanceMethod yX8_ifRolled ∈ Wall := Wi_Wr21 _ (List.mem_of_getElem? (i := 10) rfl)
theorem mw_515 : Cond.selects RX8 yX8_ifRolled yX8_ifRolled ∈ Wall := Wi_Wr21 _ (List.mem_of_getElem? (i := 11) rfl)
theorem mw_516 : Cond.code yX8_ifRolled cX8_ifRolled 3 (some .int) ∈ Wall := Wi_Wr21 _ (List.mem_of_getElem? (i := 12) rfl)
theorem mw_517 : Cond.methodLink RX8 109 yX8_copies ∈ Wall := Wi_Wr21 _ (List.mem_of_getElem? (i := 13) rfl)
theorem mw_518 : Cond.instanceMethod yX8_copies ∈ Wall := Wi_Wr21 _ (List.mem_of_getElem? (i := 14) rfl)
theorem mw_519 : Cond.selects RX8 yX8_copies yX8_copies ∈ Wall := Wi_Wr21 _ (List.mem_of_getElem? (i := 15) rfl)
theorem mw_520 : Cond.code yX8_copies cX8_copies 2 none ∈ Wall := Wi_Wr21 _ (List.mem_of_getElem? (i := 16) rfl)
theorem mw_521 : Cond.methodLink RL 65 yX7_widest ∈ Wall := Wi_Wr21 _ (List.mem_of_getElem? (i := 17) rfl)
theorem mw_522 : Cond.instanceMethod yX7_widest ∈ Wall := Wi_Wr21 _ (List.mem_of_getElem? (i := 18) rfl)
theorem mw_523 : Cond.selects RX7 yX7_widest yX7_widest ∈ Wall := Wi_Wr21 _ (List.mem_of_getElem? (i := 19) rfl)
theorem mw_524 : Cond.code yX7_widest cX7_widest 2 (some .int) ∈ Wall := Wi_Wr21 _ (List.mem_of_getElem? (i := 20) rfl)
theorem mw_525 : Cond.methodLink RX7 179 yX1_begin ∈ Wall := Wi_Wr21 _ (List.mem_of_getElem? (i := 21) rfl)
theorem mw_526 : Cond.methodLink RL 68 yX8_widest ∈ Wall := Wi_Wr21 _ (List.mem_of_getElem? (i := 22) rfl)
theorem mw_527 : Cond.instanceMethod yX8_widest ∈ Wall := Wi_Wr21 _ (List.mem_of_getElem? (i := 23) rfl)
theorem mw_528 : Cond.selects RX8 yX8_widest yX8_widest ∈ Wall := Wi_Wr22 _ (List.mem_of_getElem? (i := 0) rfl)
theorem mw_529 : Cond.code yX8_widest cX8_widest 2 (some .int) ∈ Wall := Wi_Wr22 _ (List.mem_of_getElem? (i := 1) rfl)
theorem mw_530 : Cond.methodLink RL 69 yX7_saves ∈ Wall := Wi_Wr22 _ (List.mem_of_getElem? (i := 2) rfl)
theorem mw_531 : Cond.instanceMethod yX7_saves ∈ Wall := Wi_Wr22 _ (List.mem_of_getElem? (i := 3) rfl)
theorem mw_532 : Cond.selects RX7 yX7_saves yX7_saves ∈ Wall := Wi_Wr22 _ (List.mem_of_getElem? (i := 4) rfl)
theorem mw_533 : Cond.code yX7_saves cX7_saves 4 (some .int) ∈ Wall := Wi_Wr22 _ (List.mem_of_getElem? (i := 5) rfl)
theorem mw_534 : Cond.methodLink RX7 183 yX7_passesAfterTaps ∈ Wall := Wi_Wr22 _ (List.mem_of_getElem? (i := 6) rfl)
theorem mw_535 : Cond.instanceMethod yX7_passesAfterTaps ∈ Wall := Wi_Wr22 _ (List.mem_of_getElem? (i := 7) rfl)
theorem mw_536 : Cond.selects RX7 yX7_passesAfterTaps yX7_passesAfterTaps ∈ Wall := Wi_Wr22 _ (List.mem_of_getElem? (i := 8) rfl)
theorem mw_537 : Cond.code yX7_passesAfterTaps cX7_passesAfterTaps 4 (some .boolean) ∈ Wall := Wi_Wr22 _ (List.mem_of_getElem? (i := 9) rfl)
theorem mw_538 : Cond.methodLink RX7 186 yX1_takeTap ∈ Wall := Wi_Wr22 _ (List.mem_of_getElem? (i := 10) rfl)
theorem mw_539 : Cond.methodLink RL 72 yX8_saves ∈ Wall := Wi_Wr22 _ (List.mem_of_getElem? (i := 11) rfl)
theorem mw_540 : Cond.instanceMethod yX8_saves ∈ Wall := Wi_Wr22 _ (List.mem_of_getElem? (i := 12) rfl)
theorem mw_541 : Cond.selects RX8 yX8_saves yX8_saves ∈ Wall := Wi_Wr22 _ (List.mem_of_getElem? (i := 13) rfl)
theorem mw_542 : Cond.code yX8_saves cX8_saves 4 (some .int) ∈ Wall := Wi_Wr22 _ (List.mem_of_getElem? (i := 14) rfl)
theorem mw_543 : Cond.methodLink RL 73 yX7_traced ∈ Wall := Wi_Wr22 _ (List.mem_of_getElem? (i := 15) rfl)
theorem mw_544 : Cond.instanceMethod yX7_traced ∈ Wall := Wi_Wr22 _ (List.mem_of_getElem? (i := 16) rfl)
theorem mw_545 : Cond.selects RX7 yX7_traced yX7_traced ∈ Wall := Wi_Wr22 _ (List.mem_of_getElem? (i := 17) rfl)
theorem mw_546 : Cond.code yX7_traced cX7_traced 4 (some .int) ∈ Wall := Wi_Wr22 _ (List.mem_of_getElem? (i := 18) rfl)
theorem mw_547 : Cond.methodLink RL 76 yX8_traced ∈ Wall := Wi_Wr22 _ (List.mem_of_getElem? (i := 19) rfl)
theorem mw_548 : Cond.instanceMethod yX8_traced ∈ Wall := Wi_Wr22 _ (List.mem_of_getElem? (i := 20) rfl)
theorem mw_549 : Cond.selects RX8 yX8_traced yX8_traced ∈ Wall := Wi_Wr22 _ (List.mem_of_getElem? (i := 21) rfl)
theorem mw_550 : Cond.code yX8_traced cX8_traced 5 (some .int) ∈ Wall := Wi_Wr22 _ (List.mem_of_getElem? (i := 22) rfl)
theorem mw_551 : Cond.methodLink RL 79 yX7_put ∈ Wall := Wi_Wr22 _ (List.mem_of_getElem? (i := 23) rfl)
theorem mw_552 : Cond.instanceMethod yX7_put ∈ Wall := Wi_Wr23 _ (List.mem_of_getElem? (i := 0) rfl)
theorem mw_553 : Cond.selects RX7 yX7_put yX7_put ∈ Wall := Wi_Wr23 _ (List.mem_of_getElem? (i := 1) rfl)
theorem mw_554 : Cond.code yX7_put cX7_put 4 (some .int) ∈ Wall := Wi_Wr23 _ (List.mem_of_getElem? (i := 2) rfl)
theorem mw_555 : Cond.methodLink RX7 190 yX2_charactersIn ∈ Wall := Wi_Wr23 _ (List.mem_of_getElem? (i := 3) rfl)
theorem mw_556 : Cond.static yX2_charactersIn ∈ Wall := Wi_Wr23 _ (List.mem_of_getElem? (i := 4) rfl)
theorem mw_557 : Cond.code yX2_charactersIn cX2_charactersIn 5 (some .int) ∈ Wall := Wi_Wr23 _ (List.mem_of_getElem? (i := 5) rfl)
theorem mw_558 : Cond.methodLink RX2 24 yX2_codeIn ∈ Wall := Wi_Wr23 _ (List.mem_of_getElem? (i := 6) rfl)
theorem mw_559 : Cond.static yX2_codeIn ∈ Wall := Wi_Wr23 _ (List.mem_of_getElem? (i := 7) rfl)
theorem mw_560 : Cond.code yX2_codeIn cX2_codeIn 3 (some .int) ∈ Wall := Wi_Wr23 _ (List.mem_of_getElem? (i := 8) rfl)
theorem mw_561 : Cond.constantLong RX2 22 (255) ∈ Wall := Wi_Wr23 _ (List.mem_of_getElem? (i := 9) rfl)
theorem mw_562 : Cond.methodLink RX7 194 yX2_append ∈ Wall := Wi_Wr23 _ (List.mem_of_getElem? (i := 10) rfl)
theorem mw_563 : Cond.instanceMethod yX2_append ∈ Wall := Wi_Wr23 _ (List.mem_of_getElem? (i := 11) rfl)
theorem mw_564 : Cond.selects RX2 yX2_append yX2_append ∈ Wall := Wi_Wr23 _ (List.mem_of_getElem? (i := 12) rfl)
theorem mw_565 : Cond.code yX2_append cX2_append 5 (some .int) ∈ Wall := Wi_Wr23 _ (List.mem_of_getElem? (i := 13) rfl)
theorem mw_566 : Cond.methodLink RL 83 yX8_put ∈ Wall := Wi_Wr23 _ (List.mem_of_getElem? (i := 14) rfl)
theorem mw_567 : Cond.instanceMethod yX8_put ∈ Wall := Wi_Wr23 _ (List.mem_of_getElem? (i := 15) rfl)
theorem mw_568 : Cond.selects RX8 yX8_put yX8_put ∈ Wall := Wi_Wr23 _ (List.mem_of_getElem? (i := 16) rfl)
theorem mw_569 : Cond.code yX8_put cX8_put 8 (some .int) ∈ Wall := Wi_Wr23 _ (List.mem_of_getElem? (i := 17) rfl)
theorem mw_570 : Cond.constantLong RX8 112 (255) ∈ Wall := Wi_Wr23 _ (List.mem_of_getElem? (i := 18) rfl)
theorem mw_571 : Cond.methodLink RL 84 yX7_wipe ∈ Wall := Wi_Wr23 _ (List.mem_of_getElem? (i := 19) rfl)
theorem mw_572 : Cond.instanceMethod yX7_wipe ∈ Wall := Wi_Wr23 _ (List.mem_of_getElem? (i := 20) rfl)
theorem mw_573 : Cond.selects RX7 yX7_wipe yX7_wipe ∈ Wall := Wi_Wr23 _ (List.mem_of_getElem? (i := 21) rfl)
theorem mw_574 : Cond.code yX7_wipe cX7_wipe 1 (some .int) ∈ Wall := Wi_Wr23 _ (List.mem_of_getElem? (i := 22) rfl)
theorem mw_575 : Cond.methodLink RX7 198 yX2_empty ∈ Wall := Wi_Wr23 _ (List.mem_of_getElem? (i := 23) rfl)
theorem mw_576 : Cond.instanceMethod yX2_empty ∈ Wall := Wi_Wr24 _ (List.mem_of_getElem? (i := 0) rfl)
theorem mw_577 : Cond.selects RX2 yX2_empty yX2_empty ∈ Wall := Wi_Wr24 _ (List.mem_of_getElem? (i := 1) rfl)
theorem mw_578 : Cond.code yX2_empty cX2_empty 2 (some .int) ∈ Wall := Wi_Wr24 _ (List.mem_of_getElem? (i := 2) rfl)
theorem mw_579 : Cond.methodLink RL 87 yX8_wipe ∈ Wall := Wi_Wr24 _ (List.mem_of_getElem? (i := 3) rfl)
theorem mw_580 : Cond.instanceMethod yX8_wipe ∈ Wall := Wi_Wr24 _ (List.mem_of_getElem? (i := 4) rfl)
theorem mw_581 : Cond.selects RX8 yX8_wipe yX8_wipe ∈ Wall := Wi_Wr24 _ (List.mem_of_getElem? (i := 5) rfl)
theorem mw_582 : Cond.code yX8_wipe cX8_wipe 2 (some .int) ∈ Wall := Wi_Wr24 _ (List.mem_of_getElem? (i := 6) rfl)
theorem mw_583 : Cond.methodLink RL 88 yX7_fault ∈ Wall := Wi_Wr24 _ (List.mem_of_getElem? (i := 7) rfl)
theorem mw_584 : Cond.instanceMethod yX7_fault ∈ Wall := Wi_Wr24 _ (List.mem_of_getElem? (i := 8) rfl)
theorem mw_585 : Cond.selects RX7 yX7_fault yX7_fault ∈ Wall := Wi_Wr24 _ (List.mem_of_getElem? (i := 9) rfl)
theorem mw_586 : Cond.code yX7_fault cX7_fault 1 (some .int) ∈ Wall := Wi_Wr24 _ (List.mem_of_getElem? (i := 10) rfl)
theorem mw_587 : Cond.methodLink RX7 201 yX2_firstFault ∈ Wall := Wi_Wr24 _ (List.mem_of_getElem? (i := 11) rfl)
theorem mw_588 : Cond.instanceMethod yX2_firstFault ∈ Wall := Wi_Wr24 _ (List.mem_of_getElem? (i := 12) rfl)
theorem mw_589 : Cond.selects RX2 yX2_firstFault yX2_firstFault ∈ Wall := Wi_Wr24 _ (List.mem_of_getElem? (i := 13) rfl)
theorem mw_590 : Cond.code yX2_firstFault cX2_firstFault 2 (some .int) ∈ Wall := Wi_Wr24 _ (List.mem_of_getElem? (i := 14) rfl)
theorem mw_591 : Cond.methodLink RX2 28 yX2_startReading ∈ Wall := Wi_Wr24 _ (List.mem_of_getElem? (i := 15) rfl)
theorem mw_592 : Cond.instanceMethod yX2_startReading ∈ Wall := Wi_Wr24 _ (List.mem_of_getElem? (i := 16) rfl)
theorem mw_593 : Cond.selects RX2 yX2_startReading yX2_startReading ∈ Wall := Wi_Wr24 _ (List.mem_of_getElem? (i := 17) rfl)
theorem mw_594 : Cond.code yX2_startReading cX2_startReading 1 none ∈ Wall := Wi_Wr24 _ (List.mem_of_getElem? (i := 18) rfl)
theorem mw_595 : Cond.methodLink RX2 31 yX2_readOrder ∈ Wall := Wi_Wr24 _ (List.mem_of_getElem? (i := 19) rfl)
theorem mw_596 : Cond.instanceMethod yX2_readOrder ∈ Wall := Wi_Wr24 _ (List.mem_of_getElem? (i := 20) rfl)
theorem mw_597 : Cond.selects RX2 yX2_readOrder yX2_readOrder ∈ Wall := Wi_Wr24 _ (List.mem_of_getElem? (i := 21) rfl)
theorem mw_598 : Cond.code yX2_readOrder cX2_readOrder 1 (some .boolean) ∈ Wall := Wi_Wr24 _ (List.mem_of_getElem? (i := 22) rfl)
theorem mw_599 : Cond.fieldLink RX2 42 "HoopStairs$Pad" "letter" "I" ∈ Wall := Wi_Wr24 _ (List.mem_of_getElem? (i := 23) rfl)
theorem mw_600 : Cond.fieldLink RX2 45 "HoopStairs$Pad" "number" "I" ∈ Wall := Wi_Wr25 _ (List.mem_of_getElem? (i := 0) rfl)
theorem mw_601 : Cond.methodLink RX2 38 yX2_codeHere ∈ Wall := Wi_Wr25 _ (List.mem_of_getElem? (i := 1) rfl)
theorem mw_602 : Cond.instanceMethod yX2_codeHere ∈ Wall := Wi_Wr25 _ (List.mem_of_getElem? (i := 2) rfl)
theorem mw_603 : Cond.selects RX2 yX2_codeHere yX2_codeHere ∈ Wall := Wi_Wr25 _ (List.mem_of_getElem? (i := 3) rfl)
theorem mw_604 : Cond.code yX2_codeHere cX2_codeHere 1 (some .int) ∈ Wall := Wi_Wr25 _ (List.mem_of_getElem? (i := 4) rfl)
theorem mw_605 : Cond.methodLink RX2 48 yX2_readDigit ∈ Wall := Wi_Wr25 _ (List.mem_of_getElem? (i := 5) rfl)
theorem mw_606 : Cond.instanceMethod yX2_readDigit ∈ Wall := Wi_Wr25 _ (List.mem_of_getElem? (i := 6) rfl)
theorem mw_607 : Cond.selects RX2 yX2_readDigit yX2_readDigit ∈ Wall := Wi_Wr25 _ (List.mem_of_getElem? (i := 7) rfl)
theorem mw_608 : Cond.code yX2_readDigit cX2_readDigit 1 (some .boolean) ∈ Wall := Wi_Wr25 _ (List.mem_of_getElem? (i := 8) rfl)
theorem mw_609 : Cond.methodLink RX2 54 yX2_isDigit ∈ Wall := Wi_Wr25 _ (List.mem_of_getElem? (i := 9) rfl)
theorem mw_610 : Cond.static yX2_isDigit ∈ Wall := Wi_Wr25 _ (List.mem_of_getElem? (i := 10) rfl)
theorem mw_611 : Cond.code yX2_isDigit cX2_isDigit 1 (some .boolean) ∈ Wall := Wi_Wr25 _ (List.mem_of_getElem? (i := 11) rfl)
theorem mw_612 : Cond.methodLink RX2 51 yX2_readNumber ∈ Wall := Wi_Wr25 _ (List.mem_of_getElem? (i := 12) rfl)
theorem mw_613 : Cond.instanceMethod yX2_readNumber ∈ Wall := Wi_Wr25 _ (List.mem_of_getElem? (i := 13) rfl)
theorem mw_614 : Cond.selects RX2 yX2_readNumber yX2_readNumber ∈ Wall := Wi_Wr25 _ (List.mem_of_getElem? (i := 14) rfl)
theorem mw_615 : Cond.code yX2_readNumber cX2_readNumber 1 (some .boolean) ∈ Wall := Wi_Wr25 _ (List.mem_of_getElem? (i := 15) rfl)
theorem mw_616 : Cond.methodLink RX2 35 yX2_skipSeparator ∈ Wall := Wi_Wr25 _ (List.mem_of_getElem? (i := 16) rfl)
theorem mw_617 : Cond.instanceMethod yX2_skipSeparator ∈ Wall := Wi_Wr25 _ (List.mem_of_getElem? (i := 17) rfl)
theorem mw_618 : Cond.selects RX2 yX2_skipSeparator yX2_skipSeparator ∈ Wall := Wi_Wr25 _ (List.mem_of_getElem? (i := 18) rfl)
theorem mw_619 : Cond.code yX2_skipSeparator cX2_skipSeparator 1 (some .boolean) ∈ Wall := Wi_Wr25 _ (List.mem_of_getElem? (i := 19) rfl)
theorem mw_620 : Cond.methodLink RL 91 yX8_fault ∈ Wall := Wi_Wr25 _ (List.mem_of_getElem? (i := 20) rfl)
theorem mw_621 : Cond.instanceMethod yX8_fault ∈ Wall := Wi_Wr25 _ (List.mem_of_getElem? (i := 21) rfl)
theorem mw_622 : Cond.selects RX8 yX8_fault yX8_fault ∈ Wall := Wi_Wr25 _ (List.mem_of_getElem? (i := 22) rfl)
theorem mw_623 : Cond.code yX8_fault cX8_fault 4 (some .int) ∈ Wall := Wi_Wr25 _ (List.mem_of_getElem? (i := 23) rfl)
theorem mw_624 : Cond.methodLink RX8 123 yX8_orderEnd ∈ Wall := Wi_Wr26 _ (List.mem_of_getElem? (i := 0) rfl)
theorem mw_625 : Cond.instanceMethod yX8_orderEnd ∈ Wall := Wi_Wr26 _ (List.mem_of_getElem? (i := 1) rfl)
theorem mw_626 : Cond.selects RX8 yX8_orderEnd yX8_orderEnd ∈ Wall := Wi_Wr26 _ (List.mem_of_getElem? (i := 2) rfl)
theorem mw_627 : Cond.code yX8_orderEnd cX8_orderEnd 2 (some .int) ∈ Wall := Wi_Wr26 _ (List.mem_of_getElem? (i := 3) rfl)
theorem mw_628 : Cond.methodLink RX8 114 yX8_sign ∈ Wall := Wi_Wr26 _ (List.mem_of_getElem? (i := 4) rfl)
theorem mw_629 : Cond.instanceMethod yX8_sign ∈ Wall := Wi_Wr26 _ (List.mem_of_getElem? (i := 5) rfl)
theorem mw_630 : Cond.selects RX8 yX8_sign yX8_sign ∈ Wall := Wi_Wr26 _ (List.mem_of_getElem? (i := 6) rfl)
theorem mw_631 : Cond.code yX8_sign cX8_sign 2 (some .int) ∈ Wall := Wi_Wr26 _ (List.mem_of_getElem? (i := 7) rfl)
theorem mw_632 : Cond.methodLink RX8 117 yX8_digit ∈ Wall := Wi_Wr26 _ (List.mem_of_getElem? (i := 8) rfl)
theorem mw_633 : Cond.instanceMethod yX8_digit ∈ Wall := Wi_Wr26 _ (List.mem_of_getElem? (i := 9) rfl)
theorem mw_634 : Cond.selects RX8 yX8_digit yX8_digit ∈ Wall := Wi_Wr26 _ (List.mem_of_getElem? (i := 10) rfl)
theorem mw_635 : Cond.code yX8_digit cX8_digit 2 (some .int) ∈ Wall := Wi_Wr26 _ (List.mem_of_getElem? (i := 11) rfl)
theorem mw_636 : Cond.methodLink RX8 120 yX8_numberEnd ∈ Wall := Wi_Wr26 _ (List.mem_of_getElem? (i := 12) rfl)
theorem mw_637 : Cond.instanceMethod yX8_numberEnd ∈ Wall := Wi_Wr26 _ (List.mem_of_getElem? (i := 13) rfl)
theorem mw_638 : Cond.selects RX8 yX8_numberEnd yX8_numberEnd ∈ Wall := Wi_Wr26 _ (List.mem_of_getElem? (i := 14) rfl)
theorem mw_639 : Cond.code yX8_numberEnd cX8_numberEnd 2 (some .int) ∈ Wall := Wi_Wr26 _ (List.mem_of_getElem? (i := 15) rfl)
theorem mw_640 : Cond.methodLink RL 92 yX7_carryOut ∈ Wall := Wi_Wr26 _ (List.mem_of_getElem? (i := 16) rfl)
theorem mw_641 : Cond.instanceMethod yX7_carryOut ∈ Wall := Wi_Wr26 _ (List.mem_of_getElem? (i := 17) rfl)
theorem mw_642 : Cond.selects RX7 yX7_carryOut yX7_carryOut ∈ Wall := Wi_Wr26 _ (List.mem_of_getElem? (i := 18) rfl)
theorem mw_643 : Cond.code yX7_carryOut cX7_carryOut 3 (some .int) ∈ Wall := Wi_Wr26 _ (List.mem_of_getElem? (i := 19) rfl)
theorem mw_644 : Cond.methodLink RX7 204 yX2_startReading ∈ Wall := Wi_Wr26 _ (List.mem_of_getElem? (i := 20) rfl)
theorem mw_645 : Cond.methodLink RX7 207 yX2_readOrder ∈ Wall := Wi_Wr26 _ (List.mem_of_getElem? (i := 21) rfl)
theorem mw_646 : Cond.methodLink RX7 215 yX7_orderError ∈ Wall := Wi_Wr26 _ (List.mem_of_getElem? (i := 22) rfl)
theorem mw_647 : Cond.instanceMethod yX7_orderError ∈ Wall := Wi_Wr26 _ (List.mem_of_getElem? (i := 23) rfl)
theorem mw_648 : Cond.selects RX7 yX7_orderError yX7_orderError ∈ Wall := Wi_Wr27 _ (List.mem_of_getElem? (i := 0) rfl)
theorem mw_649 : Cond.code yX7_orderError cX7_orderError 3 (some .int) ∈ Wall := Wi_Wr27 _ (List.mem_of_getElem? (i := 1) rfl)
theorem mw_650 : Cond.methodLink RX7 218 yX7_carryOrder ∈ Wall := Wi_Wr27 _ (List.mem_of_getElem? (i := 2) rfl)
theorem mw_651 : Cond.instanceMethod yX7_carryOrder ∈ Wall := Wi_Wr27 _ (List.mem_of_getElem? (i := 3) rfl)
theorem mw_652 : Cond.selects RX7 yX7_carryOrder yX7_carryOrder ∈ Wall := Wi_Wr27 _ (List.mem_of_getElem? (i := 4) rfl)
theorem mw_653 : Cond.code yX7_carryOrder cX7_carryOrder 3 (some .int) ∈ Wall := Wi_Wr27 _ (List.mem_of_getElem? (i := 5) rfl)
theorem mw_654 : Cond.methodLink RX7 221 yX2_skipSeparator ∈ Wall := Wi_Wr27 _ (List.mem_of_getElem? (i := 6) rfl)
theorem mw_655 : Cond.methodLink RL 95 yX8_carryOut ∈ Wall := Wi_Wr27 _ (List.mem_of_getElem? (i := 7) rfl)
theorem mw_656 : Cond.instanceMethod yX8_carryOut ∈ Wall := Wi_Wr27 _ (List.mem_of_getElem? (i := 8) rfl)
theorem mw_657 : Cond.selects RX8 yX8_carryOut yX8_carryOut ∈ Wall := Wi_Wr27 _ (List.mem_of_getElem? (i := 9) rfl)
theorem mw_658 : Cond.code yX8_carryOut cX8_carryOut 3 (some .int) ∈ Wall := Wi_Wr27 _ (List.mem_of_getElem? (i := 10) rfl)
theorem mw_659 : Cond.methodLink RX8 132 yX8_fault ∈ Wall := Wi_Wr27 _ (List.mem_of_getElem? (i := 11) rfl)
theorem mw_660 : Cond.methodLink RX8 135 yX8_whyNot ∈ Wall := Wi_Wr27 _ (List.mem_of_getElem? (i := 12) rfl)
theorem mw_661 : Cond.instanceMethod yX8_whyNot ∈ Wall := Wi_Wr27 _ (List.mem_of_getElem? (i := 13) rfl)
theorem mw_662 : Cond.selects RX8 yX8_whyNot yX8_whyNot ∈ Wall := Wi_Wr27 _ (List.mem_of_getElem? (i := 14) rfl)
theorem mw_663 : Cond.code yX8_whyNot cX8_whyNot 3 (some .int) ∈ Wall := Wi_Wr27 _ (List.mem_of_getElem? (i := 15) rfl)
theorem mw_664 : Cond.methodLink RX8 126 yX8_numberAt ∈ Wall := Wi_Wr27 _ (List.mem_of_getElem? (i := 16) rfl)
theorem mw_665 : Cond.instanceMethod yX8_numberAt ∈ Wall := Wi_Wr27 _ (List.mem_of_getElem? (i := 17) rfl)
theorem mw_666 : Cond.selects RX8 yX8_numberAt yX8_numberAt ∈ Wall := Wi_Wr27 _ (List.mem_of_getElem? (i := 18) rfl)
theorem mw_667 : Cond.code yX8_numberAt cX8_numberAt 2 (some .int) ∈ Wall := Wi_Wr27 _ (List.mem_of_getElem? (i := 19) rfl)
theorem mw_668 : Cond.methodLink RX8 129 yX8_kindOf ∈ Wall := Wi_Wr27 _ (List.mem_of_getElem? (i := 20) rfl)
theorem mw_669 : Cond.static yX8_kindOf ∈ Wall := Wi_Wr27 _ (List.mem_of_getElem? (i := 21) rfl)
theorem mw_670 : Cond.code yX8_kindOf cX8_kindOf 1 (some .int) ∈ Wall := Wi_Wr27 _ (List.mem_of_getElem? (i := 22) rfl)
theorem mw_671 : Cond.methodLink RX8 138 yX8_does ∈ Wall := Wi_Wr27 _ (List.mem_of_getElem? (i := 23) rfl)
theorem mw_672 : Cond.instanceMethod yX8_does ∈ Wall := Wi_Wr28 _ (List.mem_of_getElem? (i := 0) rfl)
theorem mw_673 : Cond.selects RX8 yX8_does yX8_does ∈ Wall := Wi_Wr28 _ (List.mem_of_getElem? (i := 1) rfl)
theorem mw_674 : Cond.code yX8_does cX8_does 4 none ∈ Wall := Wi_Wr28 _ (List.mem_of_getElem? (i := 2) rfl)
theorem mw_675 : Cond.methodLink RL 96 yX7_undo ∈ Wall := Wi_Wr28 _ (List.mem_of_getElem? (i := 3) rfl)
theorem mw_676 : Cond.instanceMethod yX7_undo ∈ Wall := Wi_Wr28 _ (List.mem_of_getElem? (i := 4) rfl)
theorem mw_677 : Cond.selects RX7 yX7_undo yX7_undo ∈ Wall := Wi_Wr28 _ (List.mem_of_getElem? (i := 5) rfl)
theorem mw_678 : Cond.code yX7_undo cX7_undo 1 (some .int) ∈ Wall := Wi_Wr28 _ (List.mem_of_getElem? (i := 6) rfl)
theorem mw_679 : Cond.methodLink RX7 225 yX0_stepBack ∈ Wall := Wi_Wr28 _ (List.mem_of_getElem? (i := 7) rfl)
theorem mw_680 : Cond.instanceMethod yX0_stepBack ∈ Wall := Wi_Wr28 _ (List.mem_of_getElem? (i := 8) rfl)
theorem mw_681 : Cond.selects RX0 yX0_stepBack yX0_stepBack ∈ Wall := Wi_Wr28 _ (List.mem_of_getElem? (i := 9) rfl)
theorem mw_682 : Cond.code yX0_stepBack cX0_stepBack 2 (some .int) ∈ Wall := Wi_Wr28 _ (List.mem_of_getElem? (i := 10) rfl)
theorem mw_683 : Cond.methodLink RL 99 yX8_undo ∈ Wall := Wi_Wr28 _ (List.mem_of_getElem? (i := 11) rfl)
theorem mw_684 : Cond.instanceMethod yX8_undo ∈ Wall := Wi_Wr28 _ (List.mem_of_getElem? (i := 12) rfl)
theorem mw_685 : Cond.selects RX8 yX8_undo yX8_undo ∈ Wall := Wi_Wr28 _ (List.mem_of_getElem? (i := 13) rfl)
theorem mw_686 : Cond.code yX8_undo cX8_undo 2 (some .int) ∈ Wall := Wi_Wr28 _ (List.mem_of_getElem? (i := 14) rfl)
theorem mw_687 : Cond.methodLink RL 100 yX7_save ∈ Wall := Wi_Wr28 _ (List.mem_of_getElem? (i := 15) rfl)
theorem mw_688 : Cond.instanceMethod yX7_save ∈ Wall := Wi_Wr28 _ (List.mem_of_getElem? (i := 16) rfl)
theorem mw_689 : Cond.selects RX7 yX7_save yX7_save ∈ Wall := Wi_Wr28 _ (List.mem_of_getElem? (i := 17) rfl)
theorem mw_690 : Cond.code yX7_save cX7_save 2 (some .int) ∈ Wall := Wi_Wr28 _ (List.mem_of_getElem? (i := 18) rfl)
theorem mw_691 : Cond.methodLink RX7 229 yX6_copyFrom ∈ Wall := Wi_Wr28 _ (List.mem_of_getElem? (i := 19) rfl)
theorem mw_692 : Cond.methodLink RL 103 yX8_save ∈ Wall := Wi_Wr28 _ (List.mem_of_getElem? (i := 20) rfl)
theorem mw_693 : Cond.instanceMethod yX8_save ∈ Wall := Wi_Wr28 _ (List.mem_of_getElem? (i := 21) rfl)
theorem mw_694 : Cond.selects RX8 yX8_save yX8_save ∈ Wall := Wi_Wr28 _ (List.mem_of_getElem? (i := 22) rfl)
theorem mw_695 : Cond.code yX8_save cX8_save 3 (some .int) ∈ Wall := Wi_Wr28 _ (List.mem_of_getElem? (i := 23) rfl)
theorem mw_696 : Cond.methodLink RL 104 yX7_restore ∈ Wall := Wi_Wr29 _ (List.mem_of_getElem? (i := 0) rfl)
theorem mw_697 : Cond.instanceMethod yX7_restore ∈ Wall := Wi_Wr29 _ (List.mem_of_getElem? (i := 1) rfl)
theorem mw_698 : Cond.selects RX7 yX7_restore yX7_restore ∈ Wall := Wi_Wr29 _ (List.mem_of_getElem? (i := 2) rfl)
theorem mw_699 : Cond.code yX7_restore cX7_restore 2 (some .int) ∈ Wall := Wi_Wr29 _ (List.mem_of_getElem? (i := 3) rfl)
theorem mw_700 : Cond.methodLink RL 107 yX8_restore ∈ Wall := Wi_Wr29 _ (List.mem_of_getElem? (i := 4) rfl)
theorem mw_701 : Cond.instanceMethod yX8_restore ∈ Wall := Wi_Wr29 _ (List.mem_of_getElem? (i := 5) rfl)
theorem mw_702 : Cond.selects RX8 yX8_restore yX8_restore ∈ Wall := Wi_Wr29 _ (List.mem_of_getElem? (i := 6) rfl)
theorem mw_703 : Cond.code yX8_restore cX8_restore 3 (some .int) ∈ Wall := Wi_Wr29 _ (List.mem_of_getElem? (i := 7) rfl)
theorem MW_max_static : Cond.static Lib.Math.max.name ∈ Wall := mw_324
theorem MW_min_static : Cond.static Lib.Math.min.name ∈ Wall := mw_126
theorem MW_abs_static : Cond.static Lib.Math.abs.name ∈ Wall := mw_335
theorem MW_math_init : Cond.initialized "java/lang/Math" ∈ Wall := mw_127
theorem MW_max_code : Cond.code Lib.Math.max.name Lib.Math.max.code 2 (some .int) ∈ Wall := mw_325
theorem MW_min_code : Cond.code Lib.Math.min.name Lib.Math.min.code 2 (some .int) ∈ Wall := mw_128
theorem MW_abs_code : Cond.code Lib.Math.abs.name Lib.Math.abs.code 1 (some .int) ∈ Wall := mw_336
theorem MW_copy_native : Cond.native arraycopyName ∈ Wall := mw_134
theorem MW_copy_static : Cond.static arraycopyName ∈ Wall := mw_135
theorem MW_system_init : Cond.initialized "java/lang/System" ∈ Wall := mw_136
theorem Wg_Wr0 : (Wr0).all goodWord = true := by decide +kernel
theorem Wg_Wr1 : (Wr1).all goodWord = true := by decide +kernel
theorem Wg_Wr2 : (Wr2).all goodWord = true := by decide +kernel
theorem Wg_Wr3 : (Wr3).all goodWord = true := by decide +kernel
theorem Wg_Wr4 : (Wr4).all goodWord = true := by decide +kernel
theorem Wg_Wr5 : (Wr5).all goodWord = true := by decide +kernel
theorem Wg_Wr6 : (Wr6).all goodWord = true := by decide +kernel
theorem Wg_Wr7 : (Wr7).all goodWord = true := by decide +kernel
theorem Wg_Wr8 : (Wr8).all goodWord = true := by decide +kernel
theorem Wg_Wr9 : (Wr9).all goodWord = true := by decide +kernel
theorem Wg_Wr10 : (Wr10).all goodWord = true := by decide +kernel
theorem Wg_Wr11 : (Wr11).all goodWord = true := by decide +kernel
theorem Wg_Wr12 : (Wr12).all goodWord = true := by decide +kernel
theorem Wg_Wr13 : (Wr13).all goodWord = true := by decide +kernel
theorem Wg_Wr14 : (Wr14).all goodWord = true := by decide +kernel
theorem Wg_Wr15 : (Wr15).all goodWord = true := by decide +kernel
theorem Wg_Wr16 : (Wr16).all goodWord = true := by decide +kernel
theorem Wg_Wr17 : (Wr17).all goodWord = true := by decide +kernel
theorem Wg_Wr18 : (Wr18).all goodWord = true := by decide +kernel
theorem Wg_Wr19 : (Wr19).all goodWord = true := by decide +kernel
theorem Wg_Wr20 : (Wr20).all goodWord = true := by decide +kernel
theorem Wg_Wr21 : (Wr21).all goodWord = true := by decide +kernel
theorem Wg_Wr22 : (Wr22).all goodWord = true := by decide +kernel
theorem Wg_Wr23 : (Wr23).all goodWord = true := by decide +kernel
theorem Wg_Wr24 : (Wr24).all goodWord = true := by decide +kernel
theorem Wg_Wr25 : (Wr25).all goodWord = true := by decide +kernel
theorem Wg_Wr26 : (Wr26).all goodWord = true := by decide +kernel
theorem Wg_Wr27 : (Wr27).all goodWord = true := by decide +kernel
theorem Wg_Wr28 : (Wr28).all goodWord = true := by decide +kernel
theorem Wg_Wr29 : (Wr29).all goodWord = true := by decide +kernel
theorem Wg_wsX00 : (wsX00).all goodWord = true := by decide +kernel
theorem Wg_wsX10 : (wsX10).all goodWord = true := by decide +kernel
theorem Wg_wsX20 : (wsX20).all goodWord = true := by decide +kernel
theorem Wg_wsX30 : (wsX30).all goodWord = true := by decide +kernel
theorem Wg_wsX40 : (wsX40).all goodWord = true := by decide +kernel
theorem Wg_wsX50 : (wsX50).all goodWord = true := by decide +kernel
theorem Wg_wsX60 : (wsX60).all goodWord = true := by decide +kernel
theorem Wg_wsX70 : (wsX70).all goodWord = true := by decide +kernel
theorem Wg_wsX80 : (wsX80).all goodWord = true := by decide +kernel
theorem Wall_good : ∀ w ∈ Wall, goodWord w = true := by
  intro w h
  exact (List.mem_append.mp h).elim (fun h => List.all_eq_true.mp Wg_Wr0 w h) (fun h => (List.mem_append.mp h).elim (fun h => List.all_eq_true.mp Wg_Wr1 w h) (fun h => (List.mem_append.mp h).elim (fun h => List.all_eq_true.mp Wg_Wr2 w h) (fun h => (List.mem_append.mp h).elim (fun h => List.all_eq_true.mp Wg_Wr3 w h) (fun h => (List.mem_append.mp h).elim (fun h => List.all_eq_true.mp Wg_Wr4 w h) (fun h => (List.mem_append.mp h).elim (fun h => List.all_eq_true.mp Wg_Wr5 w h) (fun h => (List.mem_append.mp h).elim (fun h => List.all_eq_true.mp Wg_Wr6 w h) (fun h => (List.mem_append.mp h).elim (fun h => List.all_eq_true.mp Wg_Wr7 w h) (fun h => (List.mem_append.mp h).elim (fun h => List.all_eq_true.mp Wg_Wr8 w h) (fun h => (List.mem_append.mp h).elim (fun h => List.all_eq_true.mp Wg_Wr9 w h) (fun h => (List.mem_append.mp h).elim (fun h => List.all_eq_true.mp Wg_Wr10 w h) (fun h => (List.mem_append.mp h).elim (fun h => List.all_eq_true.mp Wg_Wr11 w h) (fun h => (List.mem_append.mp h).elim (fun h => List.all_eq_true.mp Wg_Wr12 w h) (fun h => (List.mem_append.mp h).elim (fun h => List.all_eq_true.mp Wg_Wr13 w h) (fun h => (List.mem_append.mp h).elim (fun h => List.all_eq_true.mp Wg_Wr14 w h) (fun h => (List.mem_append.mp h).elim (fun h => List.all_eq_true.mp Wg_Wr15 w h) (fun h => (List.mem_append.mp h).elim (fun h => List.all_eq_true.mp Wg_Wr16 w h) (fun h => (List.mem_append.mp h).elim (fun h => List.all_eq_true.mp Wg_Wr17 w h) (fun h => (List.mem_append.mp h).elim (fun h => List.all_eq_true.mp Wg_Wr18 w h) (fun h => (List.mem_append.mp h).elim (fun h => List.all_eq_true.mp Wg_Wr19 w h) (fun h => (List.mem_append.mp h).elim (fun h => List.all_eq_true.mp Wg_Wr20 w h) (fun h => (List.mem_append.mp h).elim (fun h => List.all_eq_true.mp Wg_Wr21 w h) (fun h => (List.mem_append.mp h).elim (fun h => List.all_eq_true.mp Wg_Wr22 w h) (fun h => (List.mem_append.mp h).elim (fun h => List.all_eq_true.mp Wg_Wr23 w h) (fun h => (List.mem_append.mp h).elim (fun h => List.all_eq_true.mp Wg_Wr24 w h) (fun h => (List.mem_append.mp h).elim (fun h => List.all_eq_true.mp Wg_Wr25 w h) (fun h => (List.mem_append.mp h).elim (fun h => List.all_eq_true.mp Wg_Wr26 w h) (fun h => (List.mem_append.mp h).elim (fun h => List.all_eq_true.mp Wg_Wr27 w h) (fun h => (List.mem_append.mp h).elim (fun h => List.all_eq_true.mp Wg_Wr28 w h) (fun h => (List.mem_append.mp h).elim (fun h => List.all_eq_true.mp Wg_Wr29 w h) (fun h => (List.mem_append.mp h).elim (fun h => List.all_eq_true.mp Wg_wsX00 w h) (fun h => (List.mem_append.mp h).elim (fun h => List.all_eq_true.mp Wg_wsX10 w h) (fun h => (List.mem_append.mp h).elim (fun h => List.all_eq_true.mp Wg_wsX20 w h) (fun h => (List.mem_append.mp h).elim (fun h => List.all_eq_true.mp Wg_wsX30 w h) (fun h => (List.mem_append.mp h).elim (fun h => List.all_eq_true.mp Wg_wsX40 w h) (fun h => (List.mem_append.mp h).elim (fun h => List.all_eq_true.mp Wg_wsX50 w h) (fun h => (List.mem_append.mp h).elim (fun h => List.all_eq_true.mp Wg_wsX60 w h) (fun h => (List.mem_append.mp h).elim (fun h => List.all_eq_true.mp Wg_wsX70 w h) (fun h => List.all_eq_true.mp Wg_wsX80 w h))))))))))))))))))))))))))))))))))))))
/-- every method's words: its own code, then all words of the claim -/
def wm (y : MethodName) (b : ByteArray) (n : Nat) (r : Option FieldType) : List Cond := .code y b n r :: Wall
theorem wm_in {y : MethodName} {b : ByteArray} {n : Nat} {r : Option FieldType} {w : Cond} (h : w ∈ Wall) : w ∈ wm y b n r := List.mem_cons_of_mem _ h
theorem wm_good {big : List Cond} (hb : ∀ w ∈ Wall, w ∈ big) {y : MethodName} {b : ByteArray} {n : Nat} {r : Option FieldType} (hc : Cond.code y b n r ∈ Wall) : GoodIn big (wm y b n r) := by
  intro w hw
  have h2 : w ∈ Wall := by
    rcases List.mem_cons.mp hw with h | h
    · rw [h]; exact hc
    · exact h
  exact ⟨hb w h2, good_of_word (Wall_good w h2)⟩
/-- a call's words out of Wall: virtual -/
theorem cwVm {big : List Cond} {R : Room} {s : State} {args : Array Value} (n : Nat) (hts : ∀ w ∈ big, w.before args s = true) (hb : ∀ w ∈ Wall, w ∈ big) {own C : String} {index maxL : Nat} {y : MethodName} {bytes : ByteArray} {ret : Option FieldType} {rm : Room} {mc ms : Nat} (hc : Cond.code y bytes maxL ret ∈ Wall) (hl : Cond.methodLink own index y ∈ Wall) (hi : Cond.instanceMethod y ∈ Wall) (hs : Cond.selects C y y ∈ Wall) (hini : Cond.initialized y.cls ∈ Wall) (hrc : rm.cells = mc) (hrs : rm.slots = ms)
    (hd : y.cls ≠ "java/lang/invoke/MethodHandle" ∧ y.cls ≠ "java/lang/invoke/VarHandle" ∧ (parseMethodDescriptor y.desc).map (fun d => d.parameters.length) = some n) (hR : rm.frames + 1 ≤ R.frames ∧ 8 + (maxL + 11) + rm.locals ≤ R.locals) :
    CallW R s args own C index y bytes maxL ret (wm y bytes maxL ret) rm mc ms n :=
  ⟨callB_of n hts (wm_good hb hc) rfl hrc hrs (hts _ (hb _ hini)) (hts _ (hb _ hl)) hd hR, hts _ (hb _ hi), hts _ (hb _ hs)⟩
theorem cwSm {big : List Cond} {R : Room} {s : State} {args : Array Value} (n : Nat) (hts : ∀ w ∈ big, w.before args s = true) (hb : ∀ w ∈ Wall, w ∈ big) {own : String} {index maxL : Nat} {y : MethodName} {bytes : ByteArray} {ret : Option FieldType} {rm : Room} {mc ms : Nat} (hc : Cond.code y bytes maxL ret ∈ Wall) (hl : Cond.methodLink own index y ∈ Wall) (hs : Cond.static y ∈ Wall) (hini : Cond.initialized y.cls ∈ Wall) (hrc : rm.cells = mc) (hrs : rm.slots = ms)
    (hd : y.cls ≠ "java/lang/invoke/MethodHandle" ∧ y.cls ≠ "java/lang/invoke/VarHandle" ∧ (parseMethodDescriptor y.desc).map (fun d => d.parameters.length) = some n) (hR : rm.frames + 1 ≤ R.frames ∧ 8 + (maxL + 11) + rm.locals ≤ R.locals) :
    CallB R s args own index y bytes maxL ret (wm y bytes maxL ret) rm mc ms n ∧ (Cond.static y).before args s = true :=
  ⟨callB_of n hts (wm_good hb hc) rfl hrc hrs (hts _ (hb _ hini)) (hts _ (hb _ hl)) hd hR, hts _ (hb _ hs)⟩
theorem cwIm {big : List Cond} {R : Room} {s : State} {args : Array Value} (n : Nat) (hts : ∀ w ∈ big, w.before args s = true) (hb : ∀ w ∈ Wall, w ∈ big) {own : String} {index maxL : Nat} {y : MethodName} {bytes : ByteArray} {rm : Room} {mc ms : Nat} (hc : Cond.code y bytes maxL none ∈ Wall) (hl : Cond.methodLink own index y ∈ Wall) (hi : Cond.instanceMethod y ∈ Wall) (hini : Cond.initialized y.cls ∈ Wall) (hy1 : y.name = "<init>") (hrc : rm.cells = mc) (hrs : rm.slots = ms)
    (hd : y.cls ≠ "java/lang/invoke/MethodHandle" ∧ y.cls ≠ "java/lang/invoke/VarHandle" ∧ (parseMethodDescriptor y.desc).map (fun d => d.parameters.length) = some n) (hR : rm.frames + 1 ≤ R.frames ∧ 8 + (maxL + 11) + rm.locals ≤ R.locals) :
    CallB R s args own index y bytes maxL none (wm y bytes maxL none) rm mc ms n ∧ y.name = "<init>" ∧ (Cond.instanceMethod y).before args s = true :=
  ⟨callB_of n hts (wm_good hb hc) rfl hrc hrs (hts _ (hb _ hini)) (hts _ (hb _ hl)) hd hR, hy1, hts _ (hb _ hi)⟩
end
section
/-! decode rows -/
theorem dX0_init_0 : decode cX0_init 0 = .ok (.aload_n 0, 1) := by decide +kernel
theorem dX0_init_1 : decode cX0_init 1 = .ok (.invokespecial 1, 3) := by decide +kernel
theorem dX0_init_4 : decode cX0_init 4 = .ok (.aload_n 0, 1) := by decide +kernel
theorem dX0_init_5 : decode cX0_init 5 = .ok (.bipush 6, 2) := by decide +kernel
theorem dX0_init_7 : decode cX0_init 7 = .ok (.anewarray 9, 3) := by decide +kernel
theorem dX0_init_10 : decode cX0_init 10 = .ok (.putfield 11, 3) := by decide +kernel
theorem dX0_init_13 : decode cX0_init 13 = .ok (.iconst 0, 1) := by decide +kernel
theorem dX0_init_14 : decode cX0_init 14 = .ok (.istore_n 1, 1) := by decide +kernel
theorem dX0_init_15 : decode cX0_init 15 = .ok (.iload_n 1, 1) := by decide +kernel
theorem dX0_init_16 : decode cX0_init 16 = .ok (.bipush 6, 2) := by decide +kernel
theorem dX0_init_18 : decode cX0_init 18 = .ok (.if_icmp .ge 22, 3) := by decide +kernel
theorem dX0_init_21 : decode cX0_init 21 = .ok (.aload_n 0, 1) := by decide +kernel
theorem dX0_init_22 : decode cX0_init 22 = .ok (.getfield 11, 3) := by decide +kernel
theorem dX0_init_25 : decode cX0_init 25 = .ok (.iload_n 1, 1) := by decide +kernel
theorem dX0_init_26 : decode cX0_init 26 = .ok (.new 9, 3) := by decide +kernel
theorem dX0_init_29 : decode cX0_init 29 = .ok (.dup, 1) := by decide +kernel
theorem dX0_init_30 : decode cX0_init 30 = .ok (.invokespecial 15, 3) := by decide +kernel
theorem dX0_init_33 : decode cX0_init 33 = .ok (.aastore, 1) := by decide +kernel
theorem dX0_init_34 : decode cX0_init 34 = .ok (.iinc 1 1, 3) := by decide +kernel
theorem dX0_init_37 : decode cX0_init 37 = .ok (.goto (-22), 3) := by decide +kernel
theorem dX0_init_40 : decode cX0_init 40 = .ok (.aload_n 0, 1) := by decide +kernel
theorem dX0_init_41 : decode cX0_init 41 = .ok (.iconst 0, 1) := by decide +kernel
theorem dX0_init_42 : decode cX0_init 42 = .ok (.putfield 16, 3) := by decide +kernel
theorem dX0_init_45 : decode cX0_init 45 = .ok (.aload_n 0, 1) := by decide +kernel
theorem dX0_init_46 : decode cX0_init 46 = .ok (.iconst 0, 1) := by decide +kernel
theorem dX0_init_47 : decode cX0_init 47 = .ok (.putfield 20, 3) := by decide +kernel
theorem dX0_init_50 : decode cX0_init 50 = .ok (.return_, 1) := by decide +kernel
theorem dX0_record_0 : decode cX0_record 0 = .ok (.aload_n 0, 1) := by decide +kernel
theorem dX0_record_1 : decode cX0_record 1 = .ok (.getfield 11, 3) := by decide +kernel
theorem dX0_record_4 : decode cX0_record 4 = .ok (.aload_n 0, 1) := by decide +kernel
theorem dX0_record_5 : decode cX0_record 5 = .ok (.getfield 16, 3) := by decide +kernel
theorem dX0_record_8 : decode cX0_record 8 = .ok (.aaload, 1) := by decide +kernel
theorem dX0_record_9 : decode cX0_record 9 = .ok (.aload_n 1, 1) := by decide +kernel
theorem dX0_record_10 : decode cX0_record 10 = .ok (.invokevirtual 23, 3) := by decide +kernel
theorem dX0_record_13 : decode cX0_record 13 = .ok (.aload_n 0, 1) := by decide +kernel
theorem dX0_record_14 : decode cX0_record 14 = .ok (.aload_n 0, 1) := by decide +kernel
theorem dX0_record_15 : decode cX0_record 15 = .ok (.getfield 16, 3) := by decide +kernel
theorem dX0_record_18 : decode cX0_record 18 = .ok (.iconst 1, 1) := by decide +kernel
theorem dX0_record_19 : decode cX0_record 19 = .ok (.iadd, 1) := by decide +kernel
theorem dX0_record_20 : decode cX0_record 20 = .ok (.bipush 6, 2) := by decide +kernel
theorem dX0_record_22 : decode cX0_record 22 = .ok (.irem, 1) := by decide +kernel
theorem dX0_record_23 : decode cX0_record 23 = .ok (.putfield 16, 3) := by decide +kernel
theorem dX0_record_26 : decode cX0_record 26 = .ok (.aload_n 0, 1) := by decide +kernel
theorem dX0_record_27 : decode cX0_record 27 = .ok (.bipush 6, 2) := by decide +kernel
theorem dX0_record_29 : decode cX0_record 29 = .ok (.aload_n 0, 1) := by decide +kernel
theorem dX0_record_30 : decode cX0_record 30 = .ok (.getfield 20, 3) := by decide +kernel
theorem dX0_record_33 : decode cX0_record 33 = .ok (.iconst 1, 1) := by decide +kernel
theorem dX0_record_34 : decode cX0_record 34 = .ok (.iadd, 1) := by decide +kernel
theorem dX0_record_35 : decode cX0_record 35 = .ok (.invokestatic 27, 3) := by decide +kernel
theorem dX0_record_38 : decode cX0_record 38 = .ok (.putfield 20, 3) := by decide +kernel
theorem dX0_record_41 : decode cX0_record 41 = .ok (.return_, 1) := by decide +kernel
theorem dX0_stepBack_0 : decode cX0_stepBack 0 = .ok (.aload_n 0, 1) := by decide +kernel
theorem dX0_stepBack_1 : decode cX0_stepBack 1 = .ok (.getfield 20, 3) := by decide +kernel
theorem dX0_stepBack_4 : decode cX0_stepBack 4 = .ok (.ifCond .le 42, 3) := by decide +kernel
theorem dX0_stepBack_7 : decode cX0_stepBack 7 = .ok (.aload_n 0, 1) := by decide +kernel
theorem dX0_stepBack_8 : decode cX0_stepBack 8 = .ok (.aload_n 0, 1) := by decide +kernel
theorem dX0_stepBack_9 : decode cX0_stepBack 9 = .ok (.getfield 16, 3) := by decide +kernel
theorem dX0_stepBack_12 : decode cX0_stepBack 12 = .ok (.bipush 6, 2) := by decide +kernel
theorem dX0_stepBack_14 : decode cX0_stepBack 14 = .ok (.iadd, 1) := by decide +kernel
theorem dX0_stepBack_15 : decode cX0_stepBack 15 = .ok (.iconst 1, 1) := by decide +kernel
theorem dX0_stepBack_16 : decode cX0_stepBack 16 = .ok (.isub, 1) := by decide +kernel
theorem dX0_stepBack_17 : decode cX0_stepBack 17 = .ok (.bipush 6, 2) := by decide +kernel
theorem dX0_stepBack_19 : decode cX0_stepBack 19 = .ok (.irem, 1) := by decide +kernel
theorem dX0_stepBack_20 : decode cX0_stepBack 20 = .ok (.putfield 16, 3) := by decide +kernel
theorem dX0_stepBack_23 : decode cX0_stepBack 23 = .ok (.aload_n 1, 1) := by decide +kernel
theorem dX0_stepBack_24 : decode cX0_stepBack 24 = .ok (.aload_n 0, 1) := by decide +kernel
theorem dX0_stepBack_25 : decode cX0_stepBack 25 = .ok (.getfield 11, 3) := by decide +kernel
theorem dX0_stepBack_28 : decode cX0_stepBack 28 = .ok (.aload_n 0, 1) := by decide +kernel
theorem dX0_stepBack_29 : decode cX0_stepBack 29 = .ok (.getfield 16, 3) := by decide +kernel
theorem dX0_stepBack_32 : decode cX0_stepBack 32 = .ok (.aaload, 1) := by decide +kernel
theorem dX0_stepBack_33 : decode cX0_stepBack 33 = .ok (.invokevirtual 23, 3) := by decide +kernel
theorem dX0_stepBack_36 : decode cX0_stepBack 36 = .ok (.aload_n 0, 1) := by decide +kernel
theorem dX0_stepBack_37 : decode cX0_stepBack 37 = .ok (.dup, 1) := by decide +kernel
theorem dX0_stepBack_38 : decode cX0_stepBack 38 = .ok (.getfield 20, 3) := by decide +kernel
theorem dX0_stepBack_41 : decode cX0_stepBack 41 = .ok (.iconst 1, 1) := by decide +kernel
theorem dX0_stepBack_42 : decode cX0_stepBack 42 = .ok (.isub, 1) := by decide +kernel
theorem dX0_stepBack_43 : decode cX0_stepBack 43 = .ok (.putfield 20, 3) := by decide +kernel
theorem dX0_stepBack_46 : decode cX0_stepBack 46 = .ok (.aload_n 0, 1) := by decide +kernel
theorem dX0_stepBack_47 : decode cX0_stepBack 47 = .ok (.getfield 20, 3) := by decide +kernel
theorem dX0_stepBack_50 : decode cX0_stepBack 50 = .ok (.ireturn, 1) := by decide +kernel
theorem dX1_init_0 : decode cX1_init 0 = .ok (.aload_n 0, 1) := by decide +kernel
theorem dX1_init_1 : decode cX1_init 1 = .ok (.invokespecial 3, 3) := by decide +kernel
theorem dX1_init_4 : decode cX1_init 4 = .ok (.aload_n 0, 1) := by decide +kernel
theorem dX1_init_5 : decode cX1_init 5 = .ok (.iconst 0, 1) := by decide +kernel
theorem dX1_init_6 : decode cX1_init 6 = .ok (.putfield 9, 3) := by decide +kernel
theorem dX1_init_9 : decode cX1_init 9 = .ok (.return_, 1) := by decide +kernel
theorem dX1_copyFrom_0 : decode cX1_copyFrom 0 = .ok (.aload_n 0, 1) := by decide +kernel
theorem dX1_copyFrom_1 : decode cX1_copyFrom 1 = .ok (.aload_n 1, 1) := by decide +kernel
theorem dX1_copyFrom_2 : decode cX1_copyFrom 2 = .ok (.getfield 9, 3) := by decide +kernel
theorem dX1_copyFrom_5 : decode cX1_copyFrom 5 = .ok (.putfield 9, 3) := by decide +kernel
theorem dX1_copyFrom_8 : decode cX1_copyFrom 8 = .ok (.aload_n 0, 1) := by decide +kernel
theorem dX1_copyFrom_9 : decode cX1_copyFrom 9 = .ok (.aload_n 1, 1) := by decide +kernel
theorem dX1_copyFrom_10 : decode cX1_copyFrom 10 = .ok (.getfield 15, 3) := by decide +kernel
theorem dX1_copyFrom_13 : decode cX1_copyFrom 13 = .ok (.putfield 15, 3) := by decide +kernel
theorem dX1_copyFrom_16 : decode cX1_copyFrom 16 = .ok (.aload_n 0, 1) := by decide +kernel
theorem dX1_copyFrom_17 : decode cX1_copyFrom 17 = .ok (.aload_n 1, 1) := by decide +kernel
theorem dX1_copyFrom_18 : decode cX1_copyFrom 18 = .ok (.getfield 19, 3) := by decide +kernel
theorem dX1_copyFrom_21 : decode cX1_copyFrom 21 = .ok (.putfield 19, 3) := by decide +kernel
theorem dX1_copyFrom_24 : decode cX1_copyFrom 24 = .ok (.aload_n 0, 1) := by decide +kernel
theorem dX1_copyFrom_25 : decode cX1_copyFrom 25 = .ok (.aload_n 1, 1) := by decide +kernel
theorem dX1_copyFrom_26 : decode cX1_copyFrom 26 = .ok (.getfield 22, 3) := by decide +kernel
theorem dX1_copyFrom_29 : decode cX1_copyFrom 29 = .ok (.putfield 22, 3) := by decide +kernel
theorem dX1_copyFrom_32 : decode cX1_copyFrom 32 = .ok (.aload_n 0, 1) := by decide +kernel
theorem dX1_copyFrom_33 : decode cX1_copyFrom 33 = .ok (.aload_n 1, 1) := by decide +kernel
theorem dX1_copyFrom_34 : decode cX1_copyFrom 34 = .ok (.getfield 25, 3) := by decide +kernel
theorem dX1_copyFrom_37 : decode cX1_copyFrom 37 = .ok (.putfield 25, 3) := by decide +kernel
theorem dX1_copyFrom_40 : decode cX1_copyFrom 40 = .ok (.aload_n 0, 1) := by decide +kernel
theorem dX1_copyFrom_41 : decode cX1_copyFrom 41 = .ok (.aload_n 1, 1) := by decide +kernel
theorem dX1_copyFrom_42 : decode cX1_copyFrom 42 = .ok (.getfield 28, 3) := by decide +kernel
theorem dX1_copyFrom_45 : decode cX1_copyFrom 45 = .ok (.putfield 28, 3) := by decide +kernel
theorem dX1_copyFrom_48 : decode cX1_copyFrom 48 = .ok (.aload_n 0, 1) := by decide +kernel
theorem dX1_copyFrom_49 : decode cX1_copyFrom 49 = .ok (.aload_n 1, 1) := by decide +kernel
theorem dX1_copyFrom_50 : decode cX1_copyFrom 50 = .ok (.getfield 31, 3) := by decide +kernel
theorem dX1_copyFrom_53 : decode cX1_copyFrom 53 = .ok (.putfield 31, 3) := by decide +kernel
theorem dX1_copyFrom_56 : decode cX1_copyFrom 56 = .ok (.aload_n 0, 1) := by decide +kernel
theorem dX1_copyFrom_57 : decode cX1_copyFrom 57 = .ok (.aload_n 1, 1) := by decide +kernel
theorem dX1_copyFrom_58 : decode cX1_copyFrom 58 = .ok (.getfield 34, 3) := by decide +kernel
theorem dX1_copyFrom_61 : decode cX1_copyFrom 61 = .ok (.putfield 34, 3) := by decide +kernel
theorem dX1_copyFrom_64 : decode cX1_copyFrom 64 = .ok (.aload_n 0, 1) := by decide +kernel
theorem dX1_copyFrom_65 : decode cX1_copyFrom 65 = .ok (.aload_n 1, 1) := by decide +kernel
theorem dX1_copyFrom_66 : decode cX1_copyFrom 66 = .ok (.getfield 37, 3) := by decide +kernel
theorem dX1_copyFrom_69 : decode cX1_copyFrom 69 = .ok (.putfield 37, 3) := by decide +kernel
theorem dX1_copyFrom_72 : decode cX1_copyFrom 72 = .ok (.aload_n 0, 1) := by decide +kernel
theorem dX1_copyFrom_73 : decode cX1_copyFrom 73 = .ok (.aload_n 1, 1) := by decide +kernel
theorem dX1_copyFrom_74 : decode cX1_copyFrom 74 = .ok (.getfield 40, 3) := by decide +kernel
theorem dX1_copyFrom_77 : decode cX1_copyFrom 77 = .ok (.putfield 40, 3) := by decide +kernel
theorem dX1_copyFrom_80 : decode cX1_copyFrom 80 = .ok (.return_, 1) := by decide +kernel
theorem dX1_allows_0 : decode cX1_allows 0 = .ok (.iload_n 0, 1) := by decide +kernel
theorem dX1_allows_1 : decode cX1_allows 1 = .ok (.iconst 1, 1) := by decide +kernel
theorem dX1_allows_2 : decode cX1_allows 2 = .ok (.if_icmp .lt 13, 3) := by decide +kernel
theorem dX1_allows_5 : decode cX1_allows 5 = .ok (.iload_n 0, 1) := by decide +kernel
theorem dX1_allows_6 : decode cX1_allows 6 = .ok (.bipush 60, 2) := by decide +kernel
theorem dX1_allows_8 : decode cX1_allows 8 = .ok (.if_icmp .gt 7, 3) := by decide +kernel
theorem dX1_allows_11 : decode cX1_allows 11 = .ok (.iconst 1, 1) := by decide +kernel
theorem dX1_allows_12 : decode cX1_allows 12 = .ok (.goto 4, 3) := by decide +kernel
theorem dX1_allows_15 : decode cX1_allows 15 = .ok (.iconst 0, 1) := by decide +kernel
theorem dX1_allows_16 : decode cX1_allows 16 = .ok (.ireturn, 1) := by decide +kernel
theorem dX1_begin_0 : decode cX1_begin 0 = .ok (.aload_n 0, 1) := by decide +kernel
theorem dX1_begin_1 : decode cX1_begin 1 = .ok (.iconst 1, 1) := by decide +kernel
theorem dX1_begin_2 : decode cX1_begin 2 = .ok (.putfield 9, 3) := by decide +kernel
theorem dX1_begin_5 : decode cX1_begin 5 = .ok (.aload_n 0, 1) := by decide +kernel
theorem dX1_begin_6 : decode cX1_begin 6 = .ok (.iload_n 1, 1) := by decide +kernel
theorem dX1_begin_7 : decode cX1_begin 7 = .ok (.putfield 15, 3) := by decide +kernel
theorem dX1_begin_10 : decode cX1_begin 10 = .ok (.aload_n 0, 1) := by decide +kernel
theorem dX1_begin_11 : decode cX1_begin 11 = .ok (.bipush 10, 2) := by decide +kernel
theorem dX1_begin_13 : decode cX1_begin 13 = .ok (.putfield 19, 3) := by decide +kernel
theorem dX1_begin_16 : decode cX1_begin 16 = .ok (.aload_n 0, 1) := by decide +kernel
theorem dX1_begin_17 : decode cX1_begin 17 = .ok (.iconst 0, 1) := by decide +kernel
theorem dX1_begin_18 : decode cX1_begin 18 = .ok (.putfield 22, 3) := by decide +kernel
theorem dX1_begin_21 : decode cX1_begin 21 = .ok (.aload_n 0, 1) := by decide +kernel
theorem dX1_begin_22 : decode cX1_begin 22 = .ok (.iconst 0, 1) := by decide +kernel
theorem dX1_begin_23 : decode cX1_begin 23 = .ok (.putfield 25, 3) := by decide +kernel
theorem dX1_begin_26 : decode cX1_begin 26 = .ok (.aload_n 0, 1) := by decide +kernel
theorem dX1_begin_27 : decode cX1_begin 27 = .ok (.iconst 0, 1) := by decide +kernel
theorem dX1_begin_28 : decode cX1_begin 28 = .ok (.putfield 28, 3) := by decide +kernel
theorem dX1_begin_31 : decode cX1_begin 31 = .ok (.aload_n 0, 1) := by decide +kernel
theorem dX1_begin_32 : decode cX1_begin 32 = .ok (.iconst 0, 1) := by decide +kernel
theorem dX1_begin_33 : decode cX1_begin 33 = .ok (.putfield 31, 3) := by decide +kernel
theorem dX1_begin_36 : decode cX1_begin 36 = .ok (.aload_n 0, 1) := by decide +kernel
theorem dX1_begin_37 : decode cX1_begin 37 = .ok (.iconst 0, 1) := by decide +kernel
theorem dX1_begin_38 : decode cX1_begin 38 = .ok (.putfield 34, 3) := by decide +kernel
theorem dX1_begin_41 : decode cX1_begin 41 = .ok (.aload_n 0, 1) := by decide +kernel
theorem dX1_begin_42 : decode cX1_begin 42 = .ok (.iconst 0, 1) := by decide +kernel
theorem dX1_begin_43 : decode cX1_begin 43 = .ok (.putfield 37, 3) := by decide +kernel
theorem dX1_begin_46 : decode cX1_begin 46 = .ok (.aload_n 0, 1) := by decide +kernel
theorem dX1_begin_47 : decode cX1_begin 47 = .ok (.iconst 0, 1) := by decide +kernel
theorem dX1_begin_48 : decode cX1_begin 48 = .ok (.putfield 40, 3) := by decide +kernel
theorem dX1_begin_51 : decode cX1_begin 51 = .ok (.return_, 1) := by decide +kernel
theorem dX1_vanish_0 : decode cX1_vanish 0 = .ok (.aload_n 0, 1) := by decide +kernel
theorem dX1_vanish_1 : decode cX1_vanish 1 = .ok (.iconst 0, 1) := by decide +kernel
theorem dX1_vanish_2 : decode cX1_vanish 2 = .ok (.putfield 9, 3) := by decide +kernel
theorem dX1_vanish_5 : decode cX1_vanish 5 = .ok (.return_, 1) := by decide +kernel
theorem dX1_rolls_0 : decode cX1_rolls 0 = .ok (.aload_n 0, 1) := by decide +kernel
theorem dX1_rolls_1 : decode cX1_rolls 1 = .ok (.getfield 9, 3) := by decide +kernel
theorem dX1_rolls_4 : decode cX1_rolls 4 = .ok (.ifCond .eq 14, 3) := by decide +kernel
theorem dX1_rolls_7 : decode cX1_rolls 7 = .ok (.aload_n 0, 1) := by decide +kernel
theorem dX1_rolls_8 : decode cX1_rolls 8 = .ok (.getfield 31, 3) := by decide +kernel
theorem dX1_rolls_11 : decode cX1_rolls 11 = .ok (.ifCond .ne 7, 3) := by decide +kernel
theorem dX1_rolls_14 : decode cX1_rolls 14 = .ok (.iconst 1, 1) := by decide +kernel
theorem dX1_rolls_15 : decode cX1_rolls 15 = .ok (.goto 4, 3) := by decide +kernel
theorem dX1_rolls_18 : decode cX1_rolls 18 = .ok (.iconst 0, 1) := by decide +kernel
theorem dX1_rolls_19 : decode cX1_rolls 19 = .ok (.ireturn, 1) := by decide +kernel
theorem dX1_takeTap_0 : decode cX1_takeTap 0 = .ok (.aload_n 0, 1) := by decide +kernel
theorem dX1_takeTap_1 : decode cX1_takeTap 1 = .ok (.dup, 1) := by decide +kernel
theorem dX1_takeTap_2 : decode cX1_takeTap 2 = .ok (.getfield 22, 3) := by decide +kernel
theorem dX1_takeTap_5 : decode cX1_takeTap 5 = .ok (.iload_n 1, 1) := by decide +kernel
theorem dX1_takeTap_6 : decode cX1_takeTap 6 = .ok (.ifCond .ne 7, 3) := by decide +kernel
theorem dX1_takeTap_9 : decode cX1_takeTap 9 = .ok (.iload_n 2, 1) := by decide +kernel
theorem dX1_takeTap_10 : decode cX1_takeTap 10 = .ok (.goto 5, 3) := by decide +kernel
theorem dX1_takeTap_13 : decode cX1_takeTap 13 = .ok (.iload_n 2, 1) := by decide +kernel
theorem dX1_takeTap_14 : decode cX1_takeTap 14 = .ok (.ineg, 1) := by decide +kernel
theorem dX1_takeTap_15 : decode cX1_takeTap 15 = .ok (.iadd, 1) := by decide +kernel
theorem dX1_takeTap_16 : decode cX1_takeTap 16 = .ok (.putfield 22, 3) := by decide +kernel
theorem dX1_takeTap_19 : decode cX1_takeTap 19 = .ok (.aload_n 0, 1) := by decide +kernel
theorem dX1_takeTap_20 : decode cX1_takeTap 20 = .ok (.iconst 2, 1) := by decide +kernel
theorem dX1_takeTap_21 : decode cX1_takeTap 21 = .ok (.invokevirtual 43, 3) := by decide +kernel
theorem dX1_takeTap_24 : decode cX1_takeTap 24 = .ok (.aload_n 0, 1) := by decide +kernel
theorem dX1_takeTap_25 : decode cX1_takeTap 25 = .ok (.dup, 1) := by decide +kernel
theorem dX1_takeTap_26 : decode cX1_takeTap 26 = .ok (.getfield 34, 3) := by decide +kernel
theorem dX1_takeTap_29 : decode cX1_takeTap 29 = .ok (.iconst 1, 1) := by decide +kernel
theorem dX1_takeTap_30 : decode cX1_takeTap 30 = .ok (.iadd, 1) := by decide +kernel
theorem dX1_takeTap_31 : decode cX1_takeTap 31 = .ok (.putfield 34, 3) := by decide +kernel
theorem dX1_takeTap_34 : decode cX1_takeTap 34 = .ok (.return_, 1) := by decide +kernel
theorem dX1_takePush_0 : decode cX1_takePush 0 = .ok (.aload_n 0, 1) := by decide +kernel
theorem dX1_takePush_1 : decode cX1_takePush 1 = .ok (.iconst 5, 1) := by decide +kernel
theorem dX1_takePush_2 : decode cX1_takePush 2 = .ok (.invokevirtual 47, 3) := by decide +kernel
theorem dX1_takePush_5 : decode cX1_takePush 5 = .ok (.aload_n 0, 1) := by decide +kernel
theorem dX1_takePush_6 : decode cX1_takePush 6 = .ok (.dup, 1) := by decide +kernel
theorem dX1_takePush_7 : decode cX1_takePush 7 = .ok (.getfield 37, 3) := by decide +kernel
theorem dX1_takePush_10 : decode cX1_takePush 10 = .ok (.iconst 1, 1) := by decide +kernel
theorem dX1_takePush_11 : decode cX1_takePush 11 = .ok (.iadd, 1) := by decide +kernel
theorem dX1_takePush_12 : decode cX1_takePush 12 = .ok (.putfield 37, 3) := by decide +kernel
theorem dX1_takePush_15 : decode cX1_takePush 15 = .ok (.return_, 1) := by decide +kernel
theorem dX1_rollOver_0 : decode cX1_rollOver 0 = .ok (.iconst 0, 1) := by decide +kernel
theorem dX1_rollOver_1 : decode cX1_rollOver 1 = .ok (.istore 4, 2) := by decide +kernel
theorem dX1_rollOver_3 : decode cX1_rollOver 3 = .ok (.iload 4, 2) := by decide +kernel
theorem dX1_rollOver_5 : decode cX1_rollOver 5 = .ok (.iload_n 1, 1) := by decide +kernel
theorem dX1_rollOver_6 : decode cX1_rollOver 6 = .ok (.if_icmp .ge 68, 3) := by decide +kernel
theorem dX1_rollOver_9 : decode cX1_rollOver 9 = .ok (.aload_n 0, 1) := by decide +kernel
theorem dX1_rollOver_10 : decode cX1_rollOver 10 = .ok (.invokevirtual 50, 3) := by decide +kernel
theorem dX1_rollOver_13 : decode cX1_rollOver 13 = .ok (.ifCond .eq 61, 3) := by decide +kernel
theorem dX1_rollOver_16 : decode cX1_rollOver 16 = .ok (.aload_n 2, 1) := by decide +kernel
theorem dX1_rollOver_17 : decode cX1_rollOver 17 = .ok (.aload_n 0, 1) := by decide +kernel
theorem dX1_rollOver_18 : decode cX1_rollOver 18 = .ok (.getfield 28, 3) := by decide +kernel
theorem dX1_rollOver_21 : decode cX1_rollOver 21 = .ok (.invokevirtual 54, 3) := by decide +kernel
theorem dX1_rollOver_24 : decode cX1_rollOver 24 = .ok (.ifCond .eq 39, 3) := by decide +kernel
theorem dX1_rollOver_27 : decode cX1_rollOver 27 = .ok (.aload_n 0, 1) := by decide +kernel
theorem dX1_rollOver_28 : decode cX1_rollOver 28 = .ok (.aload_n 2, 1) := by decide +kernel
theorem dX1_rollOver_29 : decode cX1_rollOver 29 = .ok (.aload_n 0, 1) := by decide +kernel
theorem dX1_rollOver_30 : decode cX1_rollOver 30 = .ok (.getfield 28, 3) := by decide +kernel
theorem dX1_rollOver_33 : decode cX1_rollOver 33 = .ok (.iconst 0, 1) := by decide +kernel
theorem dX1_rollOver_34 : decode cX1_rollOver 34 = .ok (.invokevirtual 60, 3) := by decide +kernel
theorem dX1_rollOver_37 : decode cX1_rollOver 37 = .ok (.aload_n 2, 1) := by decide +kernel
theorem dX1_rollOver_38 : decode cX1_rollOver 38 = .ok (.aload_n 0, 1) := by decide +kernel
theorem dX1_rollOver_39 : decode cX1_rollOver 39 = .ok (.getfield 28, 3) := by decide +kernel
theorem dX1_rollOver_42 : decode cX1_rollOver 42 = .ok (.iconst 1, 1) := by decide +kernel
theorem dX1_rollOver_43 : decode cX1_rollOver 43 = .ok (.invokevirtual 60, 3) := by decide +kernel
theorem dX1_rollOver_46 : decode cX1_rollOver 46 = .ok (.aload_n 3, 1) := by decide +kernel
theorem dX1_rollOver_47 : decode cX1_rollOver 47 = .ok (.invokevirtual 64, 3) := by decide +kernel
theorem dX1_rollOver_50 : decode cX1_rollOver 50 = .ok (.aload_n 0, 1) := by decide +kernel
theorem dX1_rollOver_51 : decode cX1_rollOver 51 = .ok (.aload_n 2, 1) := by decide +kernel
theorem dX1_rollOver_52 : decode cX1_rollOver 52 = .ok (.aload_n 3, 1) := by decide +kernel
theorem dX1_rollOver_53 : decode cX1_rollOver 53 = .ok (.iconst 0, 1) := by decide +kernel
theorem dX1_rollOver_54 : decode cX1_rollOver 54 = .ok (.invokevirtual 68, 3) := by decide +kernel
theorem dX1_rollOver_57 : decode cX1_rollOver 57 = .ok (.invokevirtual 74, 3) := by decide +kernel
theorem dX1_rollOver_60 : decode cX1_rollOver 60 = .ok (.goto 8, 3) := by decide +kernel
theorem dX1_rollOver_63 : decode cX1_rollOver 63 = .ok (.aload_n 0, 1) := by decide +kernel
theorem dX1_rollOver_64 : decode cX1_rollOver 64 = .ok (.iconst 4, 1) := by decide +kernel
theorem dX1_rollOver_65 : decode cX1_rollOver 65 = .ok (.putfield 31, 3) := by decide +kernel
theorem dX1_rollOver_68 : decode cX1_rollOver 68 = .ok (.iinc 4 1, 3) := by decide +kernel
theorem dX1_rollOver_71 : decode cX1_rollOver 71 = .ok (.goto (-68), 3) := by decide +kernel
theorem dX1_rollOver_74 : decode cX1_rollOver 74 = .ok (.return_, 1) := by decide +kernel
theorem dX1_meet_0 : decode cX1_meet 0 = .ok (.iload_n 1, 1) := by decide +kernel
theorem dX1_meet_1 : decode cX1_meet 1 = .ok (.lookupswitch 69 #[(0, 27), (1, 40)], 27) := by decide +kernel
theorem dX1_meet_28 : decode cX1_meet 28 = .ok (.aload_n 0, 1) := by decide +kernel
theorem dX1_meet_29 : decode cX1_meet 29 = .ok (.iload_n 2, 1) := by decide +kernel
theorem dX1_meet_30 : decode cX1_meet 30 = .ok (.aload_n 3, 1) := by decide +kernel
theorem dX1_meet_31 : decode cX1_meet 31 = .ok (.iconst 1, 1) := by decide +kernel
theorem dX1_meet_32 : decode cX1_meet 32 = .ok (.invokevirtual 68, 3) := by decide +kernel
theorem dX1_meet_35 : decode cX1_meet 35 = .ok (.invokevirtual 78, 3) := by decide +kernel
theorem dX1_meet_38 : decode cX1_meet 38 = .ok (.goto 56, 3) := by decide +kernel
theorem dX1_meet_41 : decode cX1_meet 41 = .ok (.aload_n 0, 1) := by decide +kernel
theorem dX1_meet_42 : decode cX1_meet 42 = .ok (.iload_n 2, 1) := by decide +kernel
theorem dX1_meet_43 : decode cX1_meet 43 = .ok (.aload_n 3, 1) := by decide +kernel
theorem dX1_meet_44 : decode cX1_meet 44 = .ok (.iconst 2, 1) := by decide +kernel
theorem dX1_meet_45 : decode cX1_meet 45 = .ok (.invokevirtual 68, 3) := by decide +kernel
theorem dX1_meet_48 : decode cX1_meet 48 = .ok (.invokevirtual 82, 3) := by decide +kernel
theorem dX1_meet_51 : decode cX1_meet 51 = .ok (.aload_n 0, 1) := by decide +kernel
theorem dX1_meet_52 : decode cX1_meet 52 = .ok (.aload_n 0, 1) := by decide +kernel
theorem dX1_meet_53 : decode cX1_meet 53 = .ok (.getfield 19, 3) := by decide +kernel
theorem dX1_meet_56 : decode cX1_meet 56 = .ok (.ifCond .ne 7, 3) := by decide +kernel
theorem dX1_meet_59 : decode cX1_meet 59 = .ok (.iconst 3, 1) := by decide +kernel
theorem dX1_meet_60 : decode cX1_meet 60 = .ok (.goto 4, 3) := by decide +kernel
theorem dX1_meet_63 : decode cX1_meet 63 = .ok (.iconst 0, 1) := by decide +kernel
theorem dX1_meet_64 : decode cX1_meet 64 = .ok (.putfield 31, 3) := by decide +kernel
theorem dX1_meet_67 : decode cX1_meet 67 = .ok (.goto 27, 3) := by decide +kernel
theorem dX1_meet_70 : decode cX1_meet 70 = .ok (.aload_n 0, 1) := by decide +kernel
theorem dX1_meet_71 : decode cX1_meet 71 = .ok (.aload_n 0, 1) := by decide +kernel
theorem dX1_meet_72 : decode cX1_meet 72 = .ok (.getfield 15, 3) := by decide +kernel
theorem dX1_meet_75 : decode cX1_meet 75 = .ok (.aload_n 0, 1) := by decide +kernel
theorem dX1_meet_76 : decode cX1_meet 76 = .ok (.getfield 25, 3) := by decide +kernel
theorem dX1_meet_79 : decode cX1_meet 79 = .ok (.iconst 4, 1) := by decide +kernel
theorem dX1_meet_80 : decode cX1_meet 80 = .ok (.idiv, 1) := by decide +kernel
theorem dX1_meet_81 : decode cX1_meet 81 = .ok (.iadd, 1) := by decide +kernel
theorem dX1_meet_82 : decode cX1_meet 82 = .ok (.iload_n 2, 1) := by decide +kernel
theorem dX1_meet_83 : decode cX1_meet 83 = .ok (.if_icmp .gt 7, 3) := by decide +kernel
theorem dX1_meet_86 : decode cX1_meet 86 = .ok (.iconst 0, 1) := by decide +kernel
theorem dX1_meet_87 : decode cX1_meet 87 = .ok (.goto 4, 3) := by decide +kernel
theorem dX1_meet_90 : decode cX1_meet 90 = .ok (.iconst 2, 1) := by decide +kernel
theorem dX1_meet_91 : decode cX1_meet 91 = .ok (.putfield 31, 3) := by decide +kernel
theorem dX1_meet_94 : decode cX1_meet 94 = .ok (.return_, 1) := by decide +kernel
theorem dX1_goBehind_0 : decode cX1_goBehind 0 = .ok (.aload_n 0, 1) := by decide +kernel
theorem dX1_goBehind_1 : decode cX1_goBehind 1 = .ok (.getfield 31, 3) := by decide +kernel
theorem dX1_goBehind_4 : decode cX1_goBehind 4 = .ok (.ifCond .eq 4, 3) := by decide +kernel
theorem dX1_goBehind_7 : decode cX1_goBehind 7 = .ok (.return_, 1) := by decide +kernel
theorem dX1_goBehind_8 : decode cX1_goBehind 8 = .ok (.aload_n 0, 1) := by decide +kernel
theorem dX1_goBehind_9 : decode cX1_goBehind 9 = .ok (.getfield 22, 3) := by decide +kernel
theorem dX1_goBehind_12 : decode cX1_goBehind 12 = .ok (.invokestatic 85, 3) := by decide +kernel
theorem dX1_goBehind_15 : decode cX1_goBehind 15 = .ok (.istore_n 3, 1) := by decide +kernel
theorem dX1_goBehind_16 : decode cX1_goBehind 16 = .ok (.aload_n 0, 1) := by decide +kernel
theorem dX1_goBehind_17 : decode cX1_goBehind 17 = .ok (.aload_n 0, 1) := by decide +kernel
theorem dX1_goBehind_18 : decode cX1_goBehind 18 = .ok (.getfield 40, 3) := by decide +kernel
theorem dX1_goBehind_21 : decode cX1_goBehind 21 = .ok (.iload_n 3, 1) := by decide +kernel
theorem dX1_goBehind_22 : decode cX1_goBehind 22 = .ok (.invokestatic 90, 3) := by decide +kernel
theorem dX1_goBehind_25 : decode cX1_goBehind 25 = .ok (.putfield 40, 3) := by decide +kernel
theorem dX1_goBehind_28 : decode cX1_goBehind 28 = .ok (.iload_n 3, 1) := by decide +kernel
theorem dX1_goBehind_29 : decode cX1_goBehind 29 = .ok (.iload_n 2, 1) := by decide +kernel
theorem dX1_goBehind_30 : decode cX1_goBehind 30 = .ok (.if_icmp .lt 9, 3) := by decide +kernel
theorem dX1_goBehind_33 : decode cX1_goBehind 33 = .ok (.aload_n 0, 1) := by decide +kernel
theorem dX1_goBehind_34 : decode cX1_goBehind 34 = .ok (.iconst 1, 1) := by decide +kernel
theorem dX1_goBehind_35 : decode cX1_goBehind 35 = .ok (.putfield 31, 3) := by decide +kernel
theorem dX1_goBehind_38 : decode cX1_goBehind 38 = .ok (.return_, 1) := by decide +kernel
theorem dX1_goBehind_39 : decode cX1_goBehind 39 = .ok (.aload_n 0, 1) := by decide +kernel
theorem dX1_goBehind_40 : decode cX1_goBehind 40 = .ok (.dup, 1) := by decide +kernel
theorem dX1_goBehind_41 : decode cX1_goBehind 41 = .ok (.getfield 28, 3) := by decide +kernel
theorem dX1_goBehind_44 : decode cX1_goBehind 44 = .ok (.iconst 1, 1) := by decide +kernel
theorem dX1_goBehind_45 : decode cX1_goBehind 45 = .ok (.iadd, 1) := by decide +kernel
theorem dX1_goBehind_46 : decode cX1_goBehind 46 = .ok (.putfield 28, 3) := by decide +kernel
theorem dX1_goBehind_49 : decode cX1_goBehind 49 = .ok (.aload_n 1, 1) := by decide +kernel
theorem dX1_goBehind_50 : decode cX1_goBehind 50 = .ok (.aload_n 0, 1) := by decide +kernel
theorem dX1_goBehind_51 : decode cX1_goBehind 51 = .ok (.getfield 28, 3) := by decide +kernel
theorem dX1_goBehind_54 : decode cX1_goBehind 54 = .ok (.invokevirtual 54, 3) := by decide +kernel
theorem dX1_goBehind_57 : decode cX1_goBehind 57 = .ok (.ifCond .ne 8, 3) := by decide +kernel
theorem dX1_goBehind_60 : decode cX1_goBehind 60 = .ok (.aload_n 0, 1) := by decide +kernel
theorem dX1_goBehind_61 : decode cX1_goBehind 61 = .ok (.iconst 4, 1) := by decide +kernel
theorem dX1_goBehind_62 : decode cX1_goBehind 62 = .ok (.putfield 31, 3) := by decide +kernel
theorem dX1_goBehind_65 : decode cX1_goBehind 65 = .ok (.return_, 1) := by decide +kernel
theorem dX1_dropBy_0 : decode cX1_dropBy 0 = .ok (.aload_n 0, 1) := by decide +kernel
theorem dX1_dropBy_1 : decode cX1_dropBy 1 = .ok (.iload_n 1, 1) := by decide +kernel
theorem dX1_dropBy_2 : decode cX1_dropBy 2 = .ok (.iconst 4, 1) := by decide +kernel
theorem dX1_dropBy_3 : decode cX1_dropBy 3 = .ok (.imul, 1) := by decide +kernel
theorem dX1_dropBy_4 : decode cX1_dropBy 4 = .ok (.invokevirtual 47, 3) := by decide +kernel
theorem dX1_dropBy_7 : decode cX1_dropBy 7 = .ok (.aload_n 0, 1) := by decide +kernel
theorem dX1_dropBy_8 : decode cX1_dropBy 8 = .ok (.iload_n 2, 1) := by decide +kernel
theorem dX1_dropBy_9 : decode cX1_dropBy 9 = .ok (.iload_n 1, 1) := by decide +kernel
theorem dX1_dropBy_10 : decode cX1_dropBy 10 = .ok (.imul, 1) := by decide +kernel
theorem dX1_dropBy_11 : decode cX1_dropBy 11 = .ok (.invokevirtual 43, 3) := by decide +kernel
theorem dX1_dropBy_14 : decode cX1_dropBy 14 = .ok (.aload_n 0, 1) := by decide +kernel
theorem dX1_dropBy_15 : decode cX1_dropBy 15 = .ok (.dup, 1) := by decide +kernel
theorem dX1_dropBy_16 : decode cX1_dropBy 16 = .ok (.getfield 22, 3) := by decide +kernel
theorem dX1_dropBy_19 : decode cX1_dropBy 19 = .ok (.aload_n 0, 1) := by decide +kernel
theorem dX1_dropBy_20 : decode cX1_dropBy 20 = .ok (.getfield 28, 3) := by decide +kernel
theorem dX1_dropBy_23 : decode cX1_dropBy 23 = .ok (.iconst 2, 1) := by decide +kernel
theorem dX1_dropBy_24 : decode cX1_dropBy 24 = .ok (.irem, 1) := by decide +kernel
theorem dX1_dropBy_25 : decode cX1_dropBy 25 = .ok (.ifCond .ne 12, 3) := by decide +kernel
theorem dX1_dropBy_28 : decode cX1_dropBy 28 = .ok (.aload_n 0, 1) := by decide +kernel
theorem dX1_dropBy_29 : decode cX1_dropBy 29 = .ok (.getfield 25, 3) := by decide +kernel
theorem dX1_dropBy_32 : decode cX1_dropBy 32 = .ok (.iconst 4, 1) := by decide +kernel
theorem dX1_dropBy_33 : decode cX1_dropBy 33 = .ok (.idiv, 1) := by decide +kernel
theorem dX1_dropBy_34 : decode cX1_dropBy 34 = .ok (.goto 10, 3) := by decide +kernel
theorem dX1_dropBy_37 : decode cX1_dropBy 37 = .ok (.aload_n 0, 1) := by decide +kernel
theorem dX1_dropBy_38 : decode cX1_dropBy 38 = .ok (.getfield 25, 3) := by decide +kernel
theorem dX1_dropBy_41 : decode cX1_dropBy 41 = .ok (.iconst 4, 1) := by decide +kernel
theorem dX1_dropBy_42 : decode cX1_dropBy 42 = .ok (.idiv, 1) := by decide +kernel
theorem dX1_dropBy_43 : decode cX1_dropBy 43 = .ok (.ineg, 1) := by decide +kernel
theorem dX1_dropBy_44 : decode cX1_dropBy 44 = .ok (.iadd, 1) := by decide +kernel
theorem dX1_dropBy_45 : decode cX1_dropBy 45 = .ok (.putfield 22, 3) := by decide +kernel
theorem dX1_dropBy_48 : decode cX1_dropBy 48 = .ok (.return_, 1) := by decide +kernel
theorem dX1_rollAlong_0 : decode cX1_rollAlong 0 = .ok (.iconst 0, 1) := by decide +kernel
theorem dX1_rollAlong_1 : decode cX1_rollAlong 1 = .ok (.istore_n 3, 1) := by decide +kernel
theorem dX1_rollAlong_2 : decode cX1_rollAlong 2 = .ok (.iload_n 3, 1) := by decide +kernel
theorem dX1_rollAlong_3 : decode cX1_rollAlong 3 = .ok (.iload_n 1, 1) := by decide +kernel
theorem dX1_rollAlong_4 : decode cX1_rollAlong 4 = .ok (.if_icmp .ge 49, 3) := by decide +kernel
theorem dX1_rollAlong_7 : decode cX1_rollAlong 7 = .ok (.aload_n 0, 1) := by decide +kernel
theorem dX1_rollAlong_8 : decode cX1_rollAlong 8 = .ok (.iconst 0, 1) := by decide +kernel
theorem dX1_rollAlong_9 : decode cX1_rollAlong 9 = .ok (.aload_n 0, 1) := by decide +kernel
theorem dX1_rollAlong_10 : decode cX1_rollAlong 10 = .ok (.getfield 19, 3) := by decide +kernel
theorem dX1_rollAlong_13 : decode cX1_rollAlong 13 = .ok (.iload_n 2, 1) := by decide +kernel
theorem dX1_rollAlong_14 : decode cX1_rollAlong 14 = .ok (.isub, 1) := by decide +kernel
theorem dX1_rollAlong_15 : decode cX1_rollAlong 15 = .ok (.invokestatic 90, 3) := by decide +kernel
theorem dX1_rollAlong_18 : decode cX1_rollAlong 18 = .ok (.putfield 19, 3) := by decide +kernel
theorem dX1_rollAlong_21 : decode cX1_rollAlong 21 = .ok (.aload_n 0, 1) := by decide +kernel
theorem dX1_rollAlong_22 : decode cX1_rollAlong 22 = .ok (.dup, 1) := by decide +kernel
theorem dX1_rollAlong_23 : decode cX1_rollAlong 23 = .ok (.getfield 25, 3) := by decide +kernel
theorem dX1_rollAlong_26 : decode cX1_rollAlong 26 = .ok (.aload_n 0, 1) := by decide +kernel
theorem dX1_rollAlong_27 : decode cX1_rollAlong 27 = .ok (.getfield 25, 3) := by decide +kernel
theorem dX1_rollAlong_30 : decode cX1_rollAlong 30 = .ok (.iconst 4, 1) := by decide +kernel
theorem dX1_rollAlong_31 : decode cX1_rollAlong 31 = .ok (.idiv, 1) := by decide +kernel
theorem dX1_rollAlong_32 : decode cX1_rollAlong 32 = .ok (.isub, 1) := by decide +kernel
theorem dX1_rollAlong_33 : decode cX1_rollAlong 33 = .ok (.putfield 25, 3) := by decide +kernel
theorem dX1_rollAlong_36 : decode cX1_rollAlong 36 = .ok (.aload_n 0, 1) := by decide +kernel
theorem dX1_rollAlong_37 : decode cX1_rollAlong 37 = .ok (.aload_n 0, 1) := by decide +kernel
theorem dX1_rollAlong_38 : decode cX1_rollAlong 38 = .ok (.getfield 19, 3) := by decide +kernel
theorem dX1_rollAlong_41 : decode cX1_rollAlong 41 = .ok (.bipush 20, 2) := by decide +kernel
theorem dX1_rollAlong_43 : decode cX1_rollAlong 43 = .ok (.idiv, 1) := by decide +kernel
theorem dX1_rollAlong_44 : decode cX1_rollAlong 44 = .ok (.invokevirtual 93, 3) := by decide +kernel
theorem dX1_rollAlong_47 : decode cX1_rollAlong 47 = .ok (.iinc 3 1, 3) := by decide +kernel
theorem dX1_rollAlong_50 : decode cX1_rollAlong 50 = .ok (.goto (-48), 3) := by decide +kernel
theorem dX1_rollAlong_53 : decode cX1_rollAlong 53 = .ok (.return_, 1) := by decide +kernel
theorem dX1_rightItselfBy_0 : decode cX1_rightItselfBy 0 = .ok (.aload_n 0, 1) := by decide +kernel
theorem dX1_rightItselfBy_1 : decode cX1_rightItselfBy 1 = .ok (.getfield 22, 3) := by decide +kernel
theorem dX1_rightItselfBy_4 : decode cX1_rightItselfBy 4 = .ok (.ifCond .le 20, 3) := by decide +kernel
theorem dX1_rightItselfBy_7 : decode cX1_rightItselfBy 7 = .ok (.aload_n 0, 1) := by decide +kernel
theorem dX1_rightItselfBy_8 : decode cX1_rightItselfBy 8 = .ok (.iconst 0, 1) := by decide +kernel
theorem dX1_rightItselfBy_9 : decode cX1_rightItselfBy 9 = .ok (.aload_n 0, 1) := by decide +kernel
theorem dX1_rightItselfBy_10 : decode cX1_rightItselfBy 10 = .ok (.getfield 22, 3) := by decide +kernel
theorem dX1_rightItselfBy_13 : decode cX1_rightItselfBy 13 = .ok (.iload_n 1, 1) := by decide +kernel
theorem dX1_rightItselfBy_14 : decode cX1_rightItselfBy 14 = .ok (.isub, 1) := by decide +kernel
theorem dX1_rightItselfBy_15 : decode cX1_rightItselfBy 15 = .ok (.invokestatic 90, 3) := by decide +kernel
theorem dX1_rightItselfBy_18 : decode cX1_rightItselfBy 18 = .ok (.putfield 22, 3) := by decide +kernel
theorem dX1_rightItselfBy_21 : decode cX1_rightItselfBy 21 = .ok (.goto 17, 3) := by decide +kernel
theorem dX1_rightItselfBy_24 : decode cX1_rightItselfBy 24 = .ok (.aload_n 0, 1) := by decide +kernel
theorem dX1_rightItselfBy_25 : decode cX1_rightItselfBy 25 = .ok (.iconst 0, 1) := by decide +kernel
theorem dX1_rightItselfBy_26 : decode cX1_rightItselfBy 26 = .ok (.aload_n 0, 1) := by decide +kernel
theorem dX1_rightItselfBy_27 : decode cX1_rightItselfBy 27 = .ok (.getfield 22, 3) := by decide +kernel
theorem dX1_rightItselfBy_30 : decode cX1_rightItselfBy 30 = .ok (.iload_n 1, 1) := by decide +kernel
theorem dX1_rightItselfBy_31 : decode cX1_rightItselfBy 31 = .ok (.iadd, 1) := by decide +kernel
theorem dX1_rightItselfBy_32 : decode cX1_rightItselfBy 32 = .ok (.invokestatic 96, 3) := by decide +kernel
theorem dX1_rightItselfBy_35 : decode cX1_rightItselfBy 35 = .ok (.putfield 22, 3) := by decide +kernel
theorem dX1_rightItselfBy_38 : decode cX1_rightItselfBy 38 = .ok (.return_, 1) := by decide +kernel
theorem dX1_speedUpBy_0 : decode cX1_speedUpBy 0 = .ok (.aload_n 0, 1) := by decide +kernel
theorem dX1_speedUpBy_1 : decode cX1_speedUpBy 1 = .ok (.bipush 99, 2) := by decide +kernel
theorem dX1_speedUpBy_3 : decode cX1_speedUpBy 3 = .ok (.aload_n 0, 1) := by decide +kernel
theorem dX1_speedUpBy_4 : decode cX1_speedUpBy 4 = .ok (.getfield 19, 3) := by decide +kernel
theorem dX1_speedUpBy_7 : decode cX1_speedUpBy 7 = .ok (.iload_n 1, 1) := by decide +kernel
theorem dX1_speedUpBy_8 : decode cX1_speedUpBy 8 = .ok (.iadd, 1) := by decide +kernel
theorem dX1_speedUpBy_9 : decode cX1_speedUpBy 9 = .ok (.invokestatic 96, 3) := by decide +kernel
theorem dX1_speedUpBy_12 : decode cX1_speedUpBy 12 = .ok (.putfield 19, 3) := by decide +kernel
theorem dX1_speedUpBy_15 : decode cX1_speedUpBy 15 = .ok (.return_, 1) := by decide +kernel
theorem dX1_shakeBy_0 : decode cX1_shakeBy 0 = .ok (.aload_n 0, 1) := by decide +kernel
theorem dX1_shakeBy_1 : decode cX1_shakeBy 1 = .ok (.bipush 99, 2) := by decide +kernel
theorem dX1_shakeBy_3 : decode cX1_shakeBy 3 = .ok (.aload_n 0, 1) := by decide +kernel
theorem dX1_shakeBy_4 : decode cX1_shakeBy 4 = .ok (.getfield 25, 3) := by decide +kernel
theorem dX1_shakeBy_7 : decode cX1_shakeBy 7 = .ok (.iload_n 1, 1) := by decide +kernel
theorem dX1_shakeBy_8 : decode cX1_shakeBy 8 = .ok (.iadd, 1) := by decide +kernel
theorem dX1_shakeBy_9 : decode cX1_shakeBy 9 = .ok (.invokestatic 96, 3) := by decide +kernel
theorem dX1_shakeBy_12 : decode cX1_shakeBy 12 = .ok (.putfield 25, 3) := by decide +kernel
theorem dX1_shakeBy_15 : decode cX1_shakeBy 15 = .ok (.return_, 1) := by decide +kernel
theorem dX2_init_0 : decode cX2_init 0 = .ok (.aload_n 0, 1) := by decide +kernel
theorem dX2_init_1 : decode cX2_init 1 = .ok (.invokespecial 3, 3) := by decide +kernel
theorem dX2_init_4 : decode cX2_init 4 = .ok (.aload_n 0, 1) := by decide +kernel
theorem dX2_init_5 : decode cX2_init 5 = .ok (.bipush 80, 2) := by decide +kernel
theorem dX2_init_7 : decode cX2_init 7 = .ok (.newarray .int, 2) := by decide +kernel
theorem dX2_init_9 : decode cX2_init 9 = .ok (.putfield 11, 3) := by decide +kernel
theorem dX2_init_12 : decode cX2_init 12 = .ok (.aload_n 0, 1) := by decide +kernel
theorem dX2_init_13 : decode cX2_init 13 = .ok (.iconst 0, 1) := by decide +kernel
theorem dX2_init_14 : decode cX2_init 14 = .ok (.putfield 15, 3) := by decide +kernel
theorem dX2_init_17 : decode cX2_init 17 = .ok (.aload_n 0, 1) := by decide +kernel
theorem dX2_init_18 : decode cX2_init 18 = .ok (.iconst 0, 1) := by decide +kernel
theorem dX2_init_19 : decode cX2_init 19 = .ok (.putfield 19, 3) := by decide +kernel
theorem dX2_init_22 : decode cX2_init 22 = .ok (.return_, 1) := by decide +kernel
theorem dX2_codeIn_0 : decode cX2_codeIn 0 = .ok (.lload_n 0, 1) := by decide +kernel
theorem dX2_codeIn_1 : decode cX2_codeIn 1 = .ok (.bipush 8, 2) := by decide +kernel
theorem dX2_codeIn_3 : decode cX2_codeIn 3 = .ok (.iload_n 2, 1) := by decide +kernel
theorem dX2_codeIn_4 : decode cX2_codeIn 4 = .ok (.imul, 1) := by decide +kernel
theorem dX2_codeIn_5 : decode cX2_codeIn 5 = .ok (.lushr, 1) := by decide +kernel
theorem dX2_codeIn_6 : decode cX2_codeIn 6 = .ok (.ldc2_w 22, 3) := by decide +kernel
theorem dX2_codeIn_9 : decode cX2_codeIn 9 = .ok (.land, 1) := by decide +kernel
theorem dX2_codeIn_10 : decode cX2_codeIn 10 = .ok (.l2i, 1) := by decide +kernel
theorem dX2_codeIn_11 : decode cX2_codeIn 11 = .ok (.ireturn, 1) := by decide +kernel
theorem dX2_charactersIn_0 : decode cX2_charactersIn 0 = .ok (.iconst 0, 1) := by decide +kernel
theorem dX2_charactersIn_1 : decode cX2_charactersIn 1 = .ok (.istore_n 2, 1) := by decide +kernel
theorem dX2_charactersIn_2 : decode cX2_charactersIn 2 = .ok (.iconst 0, 1) := by decide +kernel
theorem dX2_charactersIn_3 : decode cX2_charactersIn 3 = .ok (.istore_n 3, 1) := by decide +kernel
theorem dX2_charactersIn_4 : decode cX2_charactersIn 4 = .ok (.iload_n 3, 1) := by decide +kernel
theorem dX2_charactersIn_5 : decode cX2_charactersIn 5 = .ok (.bipush 8, 2) := by decide +kernel
theorem dX2_charactersIn_7 : decode cX2_charactersIn 7 = .ok (.if_icmp .ge 48, 3) := by decide +kernel
theorem dX2_charactersIn_10 : decode cX2_charactersIn 10 = .ok (.lload_n 0, 1) := by decide +kernel
theorem dX2_charactersIn_11 : decode cX2_charactersIn 11 = .ok (.iload_n 3, 1) := by decide +kernel
theorem dX2_charactersIn_12 : decode cX2_charactersIn 12 = .ok (.invokestatic 24, 3) := by decide +kernel
theorem dX2_charactersIn_15 : decode cX2_charactersIn 15 = .ok (.istore 4, 2) := by decide +kernel
theorem dX2_charactersIn_17 : decode cX2_charactersIn 17 = .ok (.iload 4, 2) := by decide +kernel
theorem dX2_charactersIn_19 : decode cX2_charactersIn 19 = .ok (.ifCond .ne 6, 3) := by decide +kernel
theorem dX2_charactersIn_22 : decode cX2_charactersIn 22 = .ok (.goto 27, 3) := by decide +kernel
theorem dX2_charactersIn_25 : decode cX2_charactersIn 25 = .ok (.iload_n 2, 1) := by decide +kernel
theorem dX2_charactersIn_26 : decode cX2_charactersIn 26 = .ok (.iload_n 3, 1) := by decide +kernel
theorem dX2_charactersIn_27 : decode cX2_charactersIn 27 = .ok (.if_icmp .lt 17, 3) := by decide +kernel
theorem dX2_charactersIn_30 : decode cX2_charactersIn 30 = .ok (.iload 4, 2) := by decide +kernel
theorem dX2_charactersIn_32 : decode cX2_charactersIn 32 = .ok (.bipush 33, 2) := by decide +kernel
theorem dX2_charactersIn_34 : decode cX2_charactersIn 34 = .ok (.if_icmp .lt 10, 3) := by decide +kernel
theorem dX2_charactersIn_37 : decode cX2_charactersIn 37 = .ok (.iload 4, 2) := by decide +kernel
theorem dX2_charactersIn_39 : decode cX2_charactersIn 39 = .ok (.bipush 126, 2) := by decide +kernel
theorem dX2_charactersIn_41 : decode cX2_charactersIn 41 = .ok (.if_icmp .le 5, 3) := by decide +kernel
theorem dX2_charactersIn_44 : decode cX2_charactersIn 44 = .ok (.iconst 0, 1) := by decide +kernel
theorem dX2_charactersIn_45 : decode cX2_charactersIn 45 = .ok (.ireturn, 1) := by decide +kernel
theorem dX2_charactersIn_46 : decode cX2_charactersIn 46 = .ok (.iinc 2 1, 3) := by decide +kernel
theorem dX2_charactersIn_49 : decode cX2_charactersIn 49 = .ok (.iinc 3 1, 3) := by decide +kernel
theorem dX2_charactersIn_52 : decode cX2_charactersIn 52 = .ok (.goto (-48), 3) := by decide +kernel
theorem dX2_charactersIn_55 : decode cX2_charactersIn 55 = .ok (.iload_n 2, 1) := by decide +kernel
theorem dX2_charactersIn_56 : decode cX2_charactersIn 56 = .ok (.ireturn, 1) := by decide +kernel
theorem dX2_append_0 : decode cX2_append 0 = .ok (.iload_n 3, 1) := by decide +kernel
theorem dX2_append_1 : decode cX2_append 1 = .ok (.iconst 1, 1) := by decide +kernel
theorem dX2_append_2 : decode cX2_append 2 = .ok (.isub, 1) := by decide +kernel
theorem dX2_append_3 : decode cX2_append 3 = .ok (.istore 4, 2) := by decide +kernel
theorem dX2_append_5 : decode cX2_append 5 = .ok (.iload 4, 2) := by decide +kernel
theorem dX2_append_7 : decode cX2_append 7 = .ok (.ifCond .lt 43, 3) := by decide +kernel
theorem dX2_append_10 : decode cX2_append 10 = .ok (.aload_n 0, 1) := by decide +kernel
theorem dX2_append_11 : decode cX2_append 11 = .ok (.getfield 15, 3) := by decide +kernel
theorem dX2_append_14 : decode cX2_append 14 = .ok (.bipush 80, 2) := by decide +kernel
theorem dX2_append_16 : decode cX2_append 16 = .ok (.if_icmp .ge 34, 3) := by decide +kernel
theorem dX2_append_19 : decode cX2_append 19 = .ok (.aload_n 0, 1) := by decide +kernel
theorem dX2_append_20 : decode cX2_append 20 = .ok (.getfield 11, 3) := by decide +kernel
theorem dX2_append_23 : decode cX2_append 23 = .ok (.aload_n 0, 1) := by decide +kernel
theorem dX2_append_24 : decode cX2_append 24 = .ok (.getfield 15, 3) := by decide +kernel
theorem dX2_append_27 : decode cX2_append 27 = .ok (.lload_n 1, 1) := by decide +kernel
theorem dX2_append_28 : decode cX2_append 28 = .ok (.iload 4, 2) := by decide +kernel
theorem dX2_append_30 : decode cX2_append 30 = .ok (.invokestatic 24, 3) := by decide +kernel
theorem dX2_append_33 : decode cX2_append 33 = .ok (.iastore, 1) := by decide +kernel
theorem dX2_append_34 : decode cX2_append 34 = .ok (.aload_n 0, 1) := by decide +kernel
theorem dX2_append_35 : decode cX2_append 35 = .ok (.dup, 1) := by decide +kernel
theorem dX2_append_36 : decode cX2_append 36 = .ok (.getfield 15, 3) := by decide +kernel
theorem dX2_append_39 : decode cX2_append 39 = .ok (.iconst 1, 1) := by decide +kernel
theorem dX2_append_40 : decode cX2_append 40 = .ok (.iadd, 1) := by decide +kernel
theorem dX2_append_41 : decode cX2_append 41 = .ok (.putfield 15, 3) := by decide +kernel
theorem dX2_append_44 : decode cX2_append 44 = .ok (.iinc 4 (-1), 3) := by decide +kernel
theorem dX2_append_47 : decode cX2_append 47 = .ok (.goto (-42), 3) := by decide +kernel
theorem dX2_append_50 : decode cX2_append 50 = .ok (.aload_n 0, 1) := by decide +kernel
theorem dX2_append_51 : decode cX2_append 51 = .ok (.getfield 15, 3) := by decide +kernel
theorem dX2_append_54 : decode cX2_append 54 = .ok (.ireturn, 1) := by decide +kernel
theorem dX2_empty_0 : decode cX2_empty 0 = .ok (.aload_n 0, 1) := by decide +kernel
theorem dX2_empty_1 : decode cX2_empty 1 = .ok (.getfield 15, 3) := by decide +kernel
theorem dX2_empty_4 : decode cX2_empty 4 = .ok (.istore_n 1, 1) := by decide +kernel
theorem dX2_empty_5 : decode cX2_empty 5 = .ok (.aload_n 0, 1) := by decide +kernel
theorem dX2_empty_6 : decode cX2_empty 6 = .ok (.iconst 0, 1) := by decide +kernel
theorem dX2_empty_7 : decode cX2_empty 7 = .ok (.putfield 15, 3) := by decide +kernel
theorem dX2_empty_10 : decode cX2_empty 10 = .ok (.iload_n 1, 1) := by decide +kernel
theorem dX2_empty_11 : decode cX2_empty 11 = .ok (.ireturn, 1) := by decide +kernel
theorem dX2_firstFault_0 : decode cX2_firstFault 0 = .ok (.aload_n 0, 1) := by decide +kernel
theorem dX2_firstFault_1 : decode cX2_firstFault 1 = .ok (.invokevirtual 28, 3) := by decide +kernel
theorem dX2_firstFault_4 : decode cX2_firstFault 4 = .ok (.iconst 0, 1) := by decide +kernel
theorem dX2_firstFault_5 : decode cX2_firstFault 5 = .ok (.istore_n 1, 1) := by decide +kernel
theorem dX2_firstFault_6 : decode cX2_firstFault 6 = .ok (.iload_n 1, 1) := by decide +kernel
theorem dX2_firstFault_7 : decode cX2_firstFault 7 = .ok (.bipush 80, 2) := by decide +kernel
theorem dX2_firstFault_9 : decode cX2_firstFault 9 = .ok (.if_icmp .ge 40, 3) := by decide +kernel
theorem dX2_firstFault_12 : decode cX2_firstFault 12 = .ok (.aload_n 0, 1) := by decide +kernel
theorem dX2_firstFault_13 : decode cX2_firstFault 13 = .ok (.invokevirtual 31, 3) := by decide +kernel
theorem dX2_firstFault_16 : decode cX2_firstFault 16 = .ok (.ifCond .eq 33, 3) := by decide +kernel
theorem dX2_firstFault_19 : decode cX2_firstFault 19 = .ok (.aload_n 0, 1) := by decide +kernel
theorem dX2_firstFault_20 : decode cX2_firstFault 20 = .ok (.getfield 19, 3) := by decide +kernel
theorem dX2_firstFault_23 : decode cX2_firstFault 23 = .ok (.aload_n 0, 1) := by decide +kernel
theorem dX2_firstFault_24 : decode cX2_firstFault 24 = .ok (.getfield 15, 3) := by decide +kernel
theorem dX2_firstFault_27 : decode cX2_firstFault 27 = .ok (.if_icmp .ne 6, 3) := by decide +kernel
theorem dX2_firstFault_30 : decode cX2_firstFault 30 = .ok (.bipush (-6), 2) := by decide +kernel
theorem dX2_firstFault_32 : decode cX2_firstFault 32 = .ok (.ireturn, 1) := by decide +kernel
theorem dX2_firstFault_33 : decode cX2_firstFault 33 = .ok (.aload_n 0, 1) := by decide +kernel
theorem dX2_firstFault_34 : decode cX2_firstFault 34 = .ok (.invokevirtual 35, 3) := by decide +kernel
theorem dX2_firstFault_37 : decode cX2_firstFault 37 = .ok (.ifCond .ne 6, 3) := by decide +kernel
theorem dX2_firstFault_40 : decode cX2_firstFault 40 = .ok (.goto 9, 3) := by decide +kernel
theorem dX2_firstFault_43 : decode cX2_firstFault 43 = .ok (.iinc 1 1, 3) := by decide +kernel
theorem dX2_firstFault_46 : decode cX2_firstFault 46 = .ok (.goto (-40), 3) := by decide +kernel
theorem dX2_firstFault_49 : decode cX2_firstFault 49 = .ok (.aload_n 0, 1) := by decide +kernel
theorem dX2_firstFault_50 : decode cX2_firstFault 50 = .ok (.getfield 19, 3) := by decide +kernel
theorem dX2_firstFault_53 : decode cX2_firstFault 53 = .ok (.ireturn, 1) := by decide +kernel
theorem dX2_startReading_0 : decode cX2_startReading 0 = .ok (.aload_n 0, 1) := by decide +kernel
theorem dX2_startReading_1 : decode cX2_startReading 1 = .ok (.iconst 0, 1) := by decide +kernel
theorem dX2_startReading_2 : decode cX2_startReading 2 = .ok (.putfield 19, 3) := by decide +kernel
theorem dX2_startReading_5 : decode cX2_startReading 5 = .ok (.return_, 1) := by decide +kernel
theorem dX2_readOrder_0 : decode cX2_readOrder 0 = .ok (.aload_n 0, 1) := by decide +kernel
theorem dX2_readOrder_1 : decode cX2_readOrder 1 = .ok (.aload_n 0, 1) := by decide +kernel
theorem dX2_readOrder_2 : decode cX2_readOrder 2 = .ok (.invokevirtual 38, 3) := by decide +kernel
theorem dX2_readOrder_5 : decode cX2_readOrder 5 = .ok (.putfield 42, 3) := by decide +kernel
theorem dX2_readOrder_8 : decode cX2_readOrder 8 = .ok (.aload_n 0, 1) := by decide +kernel
theorem dX2_readOrder_9 : decode cX2_readOrder 9 = .ok (.iconst 1, 1) := by decide +kernel
theorem dX2_readOrder_10 : decode cX2_readOrder 10 = .ok (.putfield 45, 3) := by decide +kernel
theorem dX2_readOrder_13 : decode cX2_readOrder 13 = .ok (.aload_n 0, 1) := by decide +kernel
theorem dX2_readOrder_14 : decode cX2_readOrder 14 = .ok (.getfield 42, 3) := by decide +kernel
theorem dX2_readOrder_17 : decode cX2_readOrder 17 = .ok (.lookupswitch 150 #[(33, 138), (60, 138), (62, 138), (100, 75), (103, 90), (104, 90), (108, 75), (114, 105)], 75) := by decide +kernel
theorem dX2_readOrder_92 : decode cX2_readOrder 92 = .ok (.aload_n 0, 1) := by decide +kernel
theorem dX2_readOrder_93 : decode cX2_readOrder 93 = .ok (.dup, 1) := by decide +kernel
theorem dX2_readOrder_94 : decode cX2_readOrder 94 = .ok (.getfield 19, 3) := by decide +kernel
theorem dX2_readOrder_97 : decode cX2_readOrder 97 = .ok (.iconst 1, 1) := by decide +kernel
theorem dX2_readOrder_98 : decode cX2_readOrder 98 = .ok (.iadd, 1) := by decide +kernel
theorem dX2_readOrder_99 : decode cX2_readOrder 99 = .ok (.putfield 19, 3) := by decide +kernel
theorem dX2_readOrder_102 : decode cX2_readOrder 102 = .ok (.aload_n 0, 1) := by decide +kernel
theorem dX2_readOrder_103 : decode cX2_readOrder 103 = .ok (.invokevirtual 48, 3) := by decide +kernel
theorem dX2_readOrder_106 : decode cX2_readOrder 106 = .ok (.ireturn, 1) := by decide +kernel
theorem dX2_readOrder_107 : decode cX2_readOrder 107 = .ok (.aload_n 0, 1) := by decide +kernel
theorem dX2_readOrder_108 : decode cX2_readOrder 108 = .ok (.dup, 1) := by decide +kernel
theorem dX2_readOrder_109 : decode cX2_readOrder 109 = .ok (.getfield 19, 3) := by decide +kernel
theorem dX2_readOrder_112 : decode cX2_readOrder 112 = .ok (.iconst 1, 1) := by decide +kernel
theorem dX2_readOrder_113 : decode cX2_readOrder 113 = .ok (.iadd, 1) := by decide +kernel
theorem dX2_readOrder_114 : decode cX2_readOrder 114 = .ok (.putfield 19, 3) := by decide +kernel
theorem dX2_readOrder_117 : decode cX2_readOrder 117 = .ok (.aload_n 0, 1) := by decide +kernel
theorem dX2_readOrder_118 : decode cX2_readOrder 118 = .ok (.invokevirtual 51, 3) := by decide +kernel
theorem dX2_readOrder_121 : decode cX2_readOrder 121 = .ok (.ireturn, 1) := by decide +kernel
theorem dX2_readOrder_122 : decode cX2_readOrder 122 = .ok (.aload_n 0, 1) := by decide +kernel
theorem dX2_readOrder_123 : decode cX2_readOrder 123 = .ok (.dup, 1) := by decide +kernel
theorem dX2_readOrder_124 : decode cX2_readOrder 124 = .ok (.getfield 19, 3) := by decide +kernel
theorem dX2_readOrder_127 : decode cX2_readOrder 127 = .ok (.iconst 1, 1) := by decide +kernel
theorem dX2_readOrder_128 : decode cX2_readOrder 128 = .ok (.iadd, 1) := by decide +kernel
theorem dX2_readOrder_129 : decode cX2_readOrder 129 = .ok (.putfield 19, 3) := by decide +kernel
theorem dX2_readOrder_132 : decode cX2_readOrder 132 = .ok (.aload_n 0, 1) := by decide +kernel
theorem dX2_readOrder_133 : decode cX2_readOrder 133 = .ok (.invokevirtual 38, 3) := by decide +kernel
theorem dX2_readOrder_136 : decode cX2_readOrder 136 = .ok (.invokestatic 54, 3) := by decide +kernel
theorem dX2_readOrder_139 : decode cX2_readOrder 139 = .ok (.ifCond .eq 10, 3) := by decide +kernel
theorem dX2_readOrder_142 : decode cX2_readOrder 142 = .ok (.aload_n 0, 1) := by decide +kernel
theorem dX2_readOrder_143 : decode cX2_readOrder 143 = .ok (.invokevirtual 51, 3) := by decide +kernel
theorem dX2_readOrder_146 : decode cX2_readOrder 146 = .ok (.ifCond .eq 7, 3) := by decide +kernel
theorem dX2_readOrder_149 : decode cX2_readOrder 149 = .ok (.iconst 1, 1) := by decide +kernel
theorem dX2_readOrder_150 : decode cX2_readOrder 150 = .ok (.goto 4, 3) := by decide +kernel
theorem dX2_readOrder_153 : decode cX2_readOrder 153 = .ok (.iconst 0, 1) := by decide +kernel
theorem dX2_readOrder_154 : decode cX2_readOrder 154 = .ok (.ireturn, 1) := by decide +kernel
theorem dX2_readOrder_155 : decode cX2_readOrder 155 = .ok (.aload_n 0, 1) := by decide +kernel
theorem dX2_readOrder_156 : decode cX2_readOrder 156 = .ok (.dup, 1) := by decide +kernel
theorem dX2_readOrder_157 : decode cX2_readOrder 157 = .ok (.getfield 19, 3) := by decide +kernel
theorem dX2_readOrder_160 : decode cX2_readOrder 160 = .ok (.iconst 1, 1) := by decide +kernel
theorem dX2_readOrder_161 : decode cX2_readOrder 161 = .ok (.iadd, 1) := by decide +kernel
theorem dX2_readOrder_162 : decode cX2_readOrder 162 = .ok (.putfield 19, 3) := by decide +kernel
theorem dX2_readOrder_165 : decode cX2_readOrder 165 = .ok (.iconst 1, 1) := by decide +kernel
theorem dX2_readOrder_166 : decode cX2_readOrder 166 = .ok (.ireturn, 1) := by decide +kernel
theorem dX2_readOrder_167 : decode cX2_readOrder 167 = .ok (.iconst 0, 1) := by decide +kernel
theorem dX2_readOrder_168 : decode cX2_readOrder 168 = .ok (.ireturn, 1) := by decide +kernel
theorem dX2_skipSeparator_0 : decode cX2_skipSeparator 0 = .ok (.aload_n 0, 1) := by decide +kernel
theorem dX2_skipSeparator_1 : decode cX2_skipSeparator 1 = .ok (.invokevirtual 38, 3) := by decide +kernel
theorem dX2_skipSeparator_4 : decode cX2_skipSeparator 4 = .ok (.bipush 59, 2) := by decide +kernel
theorem dX2_skipSeparator_6 : decode cX2_skipSeparator 6 = .ok (.if_icmp .eq 5, 3) := by decide +kernel
theorem dX2_skipSeparator_9 : decode cX2_skipSeparator 9 = .ok (.iconst 0, 1) := by decide +kernel
theorem dX2_skipSeparator_10 : decode cX2_skipSeparator 10 = .ok (.ireturn, 1) := by decide +kernel
theorem dX2_skipSeparator_11 : decode cX2_skipSeparator 11 = .ok (.aload_n 0, 1) := by decide +kernel
theorem dX2_skipSeparator_12 : decode cX2_skipSeparator 12 = .ok (.dup, 1) := by decide +kernel
theorem dX2_skipSeparator_13 : decode cX2_skipSeparator 13 = .ok (.getfield 19, 3) := by decide +kernel
theorem dX2_skipSeparator_16 : decode cX2_skipSeparator 16 = .ok (.iconst 1, 1) := by decide +kernel
theorem dX2_skipSeparator_17 : decode cX2_skipSeparator 17 = .ok (.iadd, 1) := by decide +kernel
theorem dX2_skipSeparator_18 : decode cX2_skipSeparator 18 = .ok (.putfield 19, 3) := by decide +kernel
theorem dX2_skipSeparator_21 : decode cX2_skipSeparator 21 = .ok (.iconst 1, 1) := by decide +kernel
theorem dX2_skipSeparator_22 : decode cX2_skipSeparator 22 = .ok (.ireturn, 1) := by decide +kernel
theorem dX2_readDigit_0 : decode cX2_readDigit 0 = .ok (.aload_n 0, 1) := by decide +kernel
theorem dX2_readDigit_1 : decode cX2_readDigit 1 = .ok (.invokevirtual 38, 3) := by decide +kernel
theorem dX2_readDigit_4 : decode cX2_readDigit 4 = .ok (.invokestatic 54, 3) := by decide +kernel
theorem dX2_readDigit_7 : decode cX2_readDigit 7 = .ok (.ifCond .ne 5, 3) := by decide +kernel
theorem dX2_readDigit_10 : decode cX2_readDigit 10 = .ok (.iconst 0, 1) := by decide +kernel
theorem dX2_readDigit_11 : decode cX2_readDigit 11 = .ok (.ireturn, 1) := by decide +kernel
theorem dX2_readDigit_12 : decode cX2_readDigit 12 = .ok (.aload_n 0, 1) := by decide +kernel
theorem dX2_readDigit_13 : decode cX2_readDigit 13 = .ok (.aload_n 0, 1) := by decide +kernel
theorem dX2_readDigit_14 : decode cX2_readDigit 14 = .ok (.invokevirtual 38, 3) := by decide +kernel
theorem dX2_readDigit_17 : decode cX2_readDigit 17 = .ok (.bipush 48, 2) := by decide +kernel
theorem dX2_readDigit_19 : decode cX2_readDigit 19 = .ok (.isub, 1) := by decide +kernel
theorem dX2_readDigit_20 : decode cX2_readDigit 20 = .ok (.putfield 45, 3) := by decide +kernel
theorem dX2_readDigit_23 : decode cX2_readDigit 23 = .ok (.aload_n 0, 1) := by decide +kernel
theorem dX2_readDigit_24 : decode cX2_readDigit 24 = .ok (.dup, 1) := by decide +kernel
theorem dX2_readDigit_25 : decode cX2_readDigit 25 = .ok (.getfield 19, 3) := by decide +kernel
theorem dX2_readDigit_28 : decode cX2_readDigit 28 = .ok (.iconst 1, 1) := by decide +kernel
theorem dX2_readDigit_29 : decode cX2_readDigit 29 = .ok (.iadd, 1) := by decide +kernel
theorem dX2_readDigit_30 : decode cX2_readDigit 30 = .ok (.putfield 19, 3) := by decide +kernel
theorem dX2_readDigit_33 : decode cX2_readDigit 33 = .ok (.iconst 1, 1) := by decide +kernel
theorem dX2_readDigit_34 : decode cX2_readDigit 34 = .ok (.ireturn, 1) := by decide +kernel
theorem dX2_readNumber_0 : decode cX2_readNumber 0 = .ok (.aload_n 0, 1) := by decide +kernel
theorem dX2_readNumber_1 : decode cX2_readNumber 1 = .ok (.invokevirtual 48, 3) := by decide +kernel
theorem dX2_readNumber_4 : decode cX2_readNumber 4 = .ok (.ifCond .ne 5, 3) := by decide +kernel
theorem dX2_readNumber_7 : decode cX2_readNumber 7 = .ok (.iconst 0, 1) := by decide +kernel
theorem dX2_readNumber_8 : decode cX2_readNumber 8 = .ok (.ireturn, 1) := by decide +kernel
theorem dX2_readNumber_9 : decode cX2_readNumber 9 = .ok (.aload_n 0, 1) := by decide +kernel
theorem dX2_readNumber_10 : decode cX2_readNumber 10 = .ok (.getfield 45, 3) := by decide +kernel
theorem dX2_readNumber_13 : decode cX2_readNumber 13 = .ok (.ifCond .eq 42, 3) := by decide +kernel
theorem dX2_readNumber_16 : decode cX2_readNumber 16 = .ok (.aload_n 0, 1) := by decide +kernel
theorem dX2_readNumber_17 : decode cX2_readNumber 17 = .ok (.invokevirtual 38, 3) := by decide +kernel
theorem dX2_readNumber_20 : decode cX2_readNumber 20 = .ok (.invokestatic 54, 3) := by decide +kernel
theorem dX2_readNumber_23 : decode cX2_readNumber 23 = .ok (.ifCond .eq 32, 3) := by decide +kernel
theorem dX2_readNumber_26 : decode cX2_readNumber 26 = .ok (.aload_n 0, 1) := by decide +kernel
theorem dX2_readNumber_27 : decode cX2_readNumber 27 = .ok (.aload_n 0, 1) := by decide +kernel
theorem dX2_readNumber_28 : decode cX2_readNumber 28 = .ok (.getfield 45, 3) := by decide +kernel
theorem dX2_readNumber_31 : decode cX2_readNumber 31 = .ok (.bipush 10, 2) := by decide +kernel
theorem dX2_readNumber_33 : decode cX2_readNumber 33 = .ok (.imul, 1) := by decide +kernel
theorem dX2_readNumber_34 : decode cX2_readNumber 34 = .ok (.aload_n 0, 1) := by decide +kernel
theorem dX2_readNumber_35 : decode cX2_readNumber 35 = .ok (.invokevirtual 38, 3) := by decide +kernel
theorem dX2_readNumber_38 : decode cX2_readNumber 38 = .ok (.iadd, 1) := by decide +kernel
theorem dX2_readNumber_39 : decode cX2_readNumber 39 = .ok (.bipush 48, 2) := by decide +kernel
theorem dX2_readNumber_41 : decode cX2_readNumber 41 = .ok (.isub, 1) := by decide +kernel
theorem dX2_readNumber_42 : decode cX2_readNumber 42 = .ok (.putfield 45, 3) := by decide +kernel
theorem dX2_readNumber_45 : decode cX2_readNumber 45 = .ok (.aload_n 0, 1) := by decide +kernel
theorem dX2_readNumber_46 : decode cX2_readNumber 46 = .ok (.dup, 1) := by decide +kernel
theorem dX2_readNumber_47 : decode cX2_readNumber 47 = .ok (.getfield 19, 3) := by decide +kernel
theorem dX2_readNumber_50 : decode cX2_readNumber 50 = .ok (.iconst 1, 1) := by decide +kernel
theorem dX2_readNumber_51 : decode cX2_readNumber 51 = .ok (.iadd, 1) := by decide +kernel
theorem dX2_readNumber_52 : decode cX2_readNumber 52 = .ok (.putfield 19, 3) := by decide +kernel
theorem dX2_readNumber_55 : decode cX2_readNumber 55 = .ok (.iconst 1, 1) := by decide +kernel
theorem dX2_readNumber_56 : decode cX2_readNumber 56 = .ok (.ireturn, 1) := by decide +kernel
theorem dX2_codeHere_0 : decode cX2_codeHere 0 = .ok (.aload_n 0, 1) := by decide +kernel
theorem dX2_codeHere_1 : decode cX2_codeHere 1 = .ok (.getfield 19, 3) := by decide +kernel
theorem dX2_codeHere_4 : decode cX2_codeHere 4 = .ok (.ifCond .lt 35, 3) := by decide +kernel
theorem dX2_codeHere_7 : decode cX2_codeHere 7 = .ok (.aload_n 0, 1) := by decide +kernel
theorem dX2_codeHere_8 : decode cX2_codeHere 8 = .ok (.getfield 19, 3) := by decide +kernel
theorem dX2_codeHere_11 : decode cX2_codeHere 11 = .ok (.aload_n 0, 1) := by decide +kernel
theorem dX2_codeHere_12 : decode cX2_codeHere 12 = .ok (.getfield 15, 3) := by decide +kernel
theorem dX2_codeHere_15 : decode cX2_codeHere 15 = .ok (.if_icmp .ge 24, 3) := by decide +kernel
theorem dX2_codeHere_18 : decode cX2_codeHere 18 = .ok (.aload_n 0, 1) := by decide +kernel
theorem dX2_codeHere_19 : decode cX2_codeHere 19 = .ok (.getfield 19, 3) := by decide +kernel
theorem dX2_codeHere_22 : decode cX2_codeHere 22 = .ok (.bipush 80, 2) := by decide +kernel
theorem dX2_codeHere_24 : decode cX2_codeHere 24 = .ok (.if_icmp .ge 15, 3) := by decide +kernel
theorem dX2_codeHere_27 : decode cX2_codeHere 27 = .ok (.aload_n 0, 1) := by decide +kernel
theorem dX2_codeHere_28 : decode cX2_codeHere 28 = .ok (.getfield 11, 3) := by decide +kernel
theorem dX2_codeHere_31 : decode cX2_codeHere 31 = .ok (.aload_n 0, 1) := by decide +kernel
theorem dX2_codeHere_32 : decode cX2_codeHere 32 = .ok (.getfield 19, 3) := by decide +kernel
theorem dX2_codeHere_35 : decode cX2_codeHere 35 = .ok (.iaload, 1) := by decide +kernel
theorem dX2_codeHere_36 : decode cX2_codeHere 36 = .ok (.goto 4, 3) := by decide +kernel
theorem dX2_codeHere_39 : decode cX2_codeHere 39 = .ok (.iconst 0, 1) := by decide +kernel
theorem dX2_codeHere_40 : decode cX2_codeHere 40 = .ok (.ireturn, 1) := by decide +kernel
theorem dX2_isDigit_0 : decode cX2_isDigit 0 = .ok (.iload_n 0, 1) := by decide +kernel
theorem dX2_isDigit_1 : decode cX2_isDigit 1 = .ok (.bipush 48, 2) := by decide +kernel
theorem dX2_isDigit_3 : decode cX2_isDigit 3 = .ok (.if_icmp .lt 13, 3) := by decide +kernel
theorem dX2_isDigit_6 : decode cX2_isDigit 6 = .ok (.iload_n 0, 1) := by decide +kernel
theorem dX2_isDigit_7 : decode cX2_isDigit 7 = .ok (.bipush 57, 2) := by decide +kernel
theorem dX2_isDigit_9 : decode cX2_isDigit 9 = .ok (.if_icmp .gt 7, 3) := by decide +kernel
theorem dX2_isDigit_12 : decode cX2_isDigit 12 = .ok (.iconst 1, 1) := by decide +kernel
theorem dX2_isDigit_13 : decode cX2_isDigit 13 = .ok (.goto 4, 3) := by decide +kernel
theorem dX2_isDigit_16 : decode cX2_isDigit 16 = .ok (.iconst 0, 1) := by decide +kernel
theorem dX2_isDigit_17 : decode cX2_isDigit 17 = .ok (.ireturn, 1) := by decide +kernel
theorem dX3_init_0 : decode cX3_init 0 = .ok (.aload_n 0, 1) := by decide +kernel
theorem dX3_init_1 : decode cX3_init 1 = .ok (.invokespecial 1, 3) := by decide +kernel
theorem dX3_init_4 : decode cX3_init 4 = .ok (.aload_n 0, 1) := by decide +kernel
theorem dX3_init_5 : decode cX3_init 5 = .ok (.iconst 4, 1) := by decide +kernel
theorem dX3_init_6 : decode cX3_init 6 = .ok (.bipush 10, 2) := by decide +kernel
theorem dX3_init_8 : decode cX3_init 8 = .ok (.multianewarray 9 2, 4) := by decide +kernel
theorem dX3_init_12 : decode cX3_init 12 = .ok (.putfield 11, 3) := by decide +kernel
theorem dX3_init_15 : decode cX3_init 15 = .ok (.aload_n 0, 1) := by decide +kernel
theorem dX3_init_16 : decode cX3_init 16 = .ok (.iconst 0, 1) := by decide +kernel
theorem dX3_init_17 : decode cX3_init 17 = .ok (.putfield 14, 3) := by decide +kernel
theorem dX3_init_20 : decode cX3_init 20 = .ok (.return_, 1) := by decide +kernel
theorem dX3_copyFrom_0 : decode cX3_copyFrom 0 = .ok (.iconst 0, 1) := by decide +kernel
theorem dX3_copyFrom_1 : decode cX3_copyFrom 1 = .ok (.istore_n 2, 1) := by decide +kernel
theorem dX3_copyFrom_2 : decode cX3_copyFrom 2 = .ok (.iload_n 2, 1) := by decide +kernel
theorem dX3_copyFrom_3 : decode cX3_copyFrom 3 = .ok (.iconst 4, 1) := by decide +kernel
theorem dX3_copyFrom_4 : decode cX3_copyFrom 4 = .ok (.if_icmp .ge 28, 3) := by decide +kernel
theorem dX3_copyFrom_7 : decode cX3_copyFrom 7 = .ok (.aload_n 1, 1) := by decide +kernel
theorem dX3_copyFrom_8 : decode cX3_copyFrom 8 = .ok (.getfield 11, 3) := by decide +kernel
theorem dX3_copyFrom_11 : decode cX3_copyFrom 11 = .ok (.iload_n 2, 1) := by decide +kernel
theorem dX3_copyFrom_12 : decode cX3_copyFrom 12 = .ok (.aaload, 1) := by decide +kernel
theorem dX3_copyFrom_13 : decode cX3_copyFrom 13 = .ok (.iconst 0, 1) := by decide +kernel
theorem dX3_copyFrom_14 : decode cX3_copyFrom 14 = .ok (.aload_n 0, 1) := by decide +kernel
theorem dX3_copyFrom_15 : decode cX3_copyFrom 15 = .ok (.getfield 11, 3) := by decide +kernel
theorem dX3_copyFrom_18 : decode cX3_copyFrom 18 = .ok (.iload_n 2, 1) := by decide +kernel
theorem dX3_copyFrom_19 : decode cX3_copyFrom 19 = .ok (.aaload, 1) := by decide +kernel
theorem dX3_copyFrom_20 : decode cX3_copyFrom 20 = .ok (.iconst 0, 1) := by decide +kernel
theorem dX3_copyFrom_21 : decode cX3_copyFrom 21 = .ok (.bipush 10, 2) := by decide +kernel
theorem dX3_copyFrom_23 : decode cX3_copyFrom 23 = .ok (.invokestatic 18, 3) := by decide +kernel
theorem dX3_copyFrom_26 : decode cX3_copyFrom 26 = .ok (.iinc 2 1, 3) := by decide +kernel
theorem dX3_copyFrom_29 : decode cX3_copyFrom 29 = .ok (.goto (-27), 3) := by decide +kernel
theorem dX3_copyFrom_32 : decode cX3_copyFrom 32 = .ok (.aload_n 0, 1) := by decide +kernel
theorem dX3_copyFrom_33 : decode cX3_copyFrom 33 = .ok (.aload_n 1, 1) := by decide +kernel
theorem dX3_copyFrom_34 : decode cX3_copyFrom 34 = .ok (.getfield 14, 3) := by decide +kernel
theorem dX3_copyFrom_37 : decode cX3_copyFrom 37 = .ok (.putfield 14, 3) := by decide +kernel
theorem dX3_copyFrom_40 : decode cX3_copyFrom 40 = .ok (.return_, 1) := by decide +kernel
theorem dX3_has_0 : decode cX3_has 0 = .ok (.iload_n 1, 1) := by decide +kernel
theorem dX3_has_1 : decode cX3_has 1 = .ok (.ifCond .lt 21, 3) := by decide +kernel
theorem dX3_has_4 : decode cX3_has 4 = .ok (.iload_n 1, 1) := by decide +kernel
theorem dX3_has_5 : decode cX3_has 5 = .ok (.aload_n 0, 1) := by decide +kernel
theorem dX3_has_6 : decode cX3_has 6 = .ok (.getfield 14, 3) := by decide +kernel
theorem dX3_has_9 : decode cX3_has 9 = .ok (.if_icmp .ge 13, 3) := by decide +kernel
theorem dX3_has_12 : decode cX3_has 12 = .ok (.iload_n 1, 1) := by decide +kernel
theorem dX3_has_13 : decode cX3_has 13 = .ok (.bipush 10, 2) := by decide +kernel
theorem dX3_has_15 : decode cX3_has 15 = .ok (.if_icmp .ge 7, 3) := by decide +kernel
theorem dX3_has_18 : decode cX3_has 18 = .ok (.iconst 1, 1) := by decide +kernel
theorem dX3_has_19 : decode cX3_has 19 = .ok (.goto 4, 3) := by decide +kernel
theorem dX3_has_22 : decode cX3_has 22 = .ok (.iconst 0, 1) := by decide +kernel
theorem dX3_has_23 : decode cX3_has 23 = .ok (.ireturn, 1) := by decide +kernel
theorem dX3_entry_0 : decode cX3_entry 0 = .ok (.aload_n 0, 1) := by decide +kernel
theorem dX3_entry_1 : decode cX3_entry 1 = .ok (.iload_n 1, 1) := by decide +kernel
theorem dX3_entry_2 : decode cX3_entry 2 = .ok (.invokevirtual 24, 3) := by decide +kernel
theorem dX3_entry_5 : decode cX3_entry 5 = .ok (.ifCond .eq 12, 3) := by decide +kernel
theorem dX3_entry_8 : decode cX3_entry 8 = .ok (.iload_n 2, 1) := by decide +kernel
theorem dX3_entry_9 : decode cX3_entry 9 = .ok (.ifCond .lt 8, 3) := by decide +kernel
theorem dX3_entry_12 : decode cX3_entry 12 = .ok (.iload_n 2, 1) := by decide +kernel
theorem dX3_entry_13 : decode cX3_entry 13 = .ok (.iconst 4, 1) := by decide +kernel
theorem dX3_entry_14 : decode cX3_entry 14 = .ok (.if_icmp .lt 5, 3) := by decide +kernel
theorem dX3_entry_17 : decode cX3_entry 17 = .ok (.iconst 0, 1) := by decide +kernel
theorem dX3_entry_18 : decode cX3_entry 18 = .ok (.ireturn, 1) := by decide +kernel
theorem dX3_entry_19 : decode cX3_entry 19 = .ok (.aload_n 0, 1) := by decide +kernel
theorem dX3_entry_20 : decode cX3_entry 20 = .ok (.getfield 11, 3) := by decide +kernel
theorem dX3_entry_23 : decode cX3_entry 23 = .ok (.iload_n 2, 1) := by decide +kernel
theorem dX3_entry_24 : decode cX3_entry 24 = .ok (.aaload, 1) := by decide +kernel
theorem dX3_entry_25 : decode cX3_entry 25 = .ok (.iload_n 1, 1) := by decide +kernel
theorem dX3_entry_26 : decode cX3_entry 26 = .ok (.iaload, 1) := by decide +kernel
theorem dX3_entry_27 : decode cX3_entry 27 = .ok (.ireturn, 1) := by decide +kernel
theorem dX3_add_0 : decode cX3_add 0 = .ok (.iconst 0, 1) := by decide +kernel
theorem dX3_add_1 : decode cX3_add 1 = .ok (.istore_n 2, 1) := by decide +kernel
theorem dX3_add_2 : decode cX3_add 2 = .ok (.iload_n 2, 1) := by decide +kernel
theorem dX3_add_3 : decode cX3_add 3 = .ok (.iconst 4, 1) := by decide +kernel
theorem dX3_add_4 : decode cX3_add 4 = .ok (.if_icmp .ge 28, 3) := by decide +kernel
theorem dX3_add_7 : decode cX3_add 7 = .ok (.aload_n 0, 1) := by decide +kernel
theorem dX3_add_8 : decode cX3_add 8 = .ok (.getfield 11, 3) := by decide +kernel
theorem dX3_add_11 : decode cX3_add 11 = .ok (.iload_n 2, 1) := by decide +kernel
theorem dX3_add_12 : decode cX3_add 12 = .ok (.aaload, 1) := by decide +kernel
theorem dX3_add_13 : decode cX3_add 13 = .ok (.iconst 0, 1) := by decide +kernel
theorem dX3_add_14 : decode cX3_add 14 = .ok (.aload_n 0, 1) := by decide +kernel
theorem dX3_add_15 : decode cX3_add 15 = .ok (.getfield 11, 3) := by decide +kernel
theorem dX3_add_18 : decode cX3_add 18 = .ok (.iload_n 2, 1) := by decide +kernel
theorem dX3_add_19 : decode cX3_add 19 = .ok (.aaload, 1) := by decide +kernel
theorem dX3_add_20 : decode cX3_add 20 = .ok (.iconst 1, 1) := by decide +kernel
theorem dX3_add_21 : decode cX3_add 21 = .ok (.bipush 9, 2) := by decide +kernel
theorem dX3_add_23 : decode cX3_add 23 = .ok (.invokestatic 18, 3) := by decide +kernel
theorem dX3_add_26 : decode cX3_add 26 = .ok (.iinc 2 1, 3) := by decide +kernel
theorem dX3_add_29 : decode cX3_add 29 = .ok (.goto (-27), 3) := by decide +kernel
theorem dX3_add_32 : decode cX3_add 32 = .ok (.aload_n 0, 1) := by decide +kernel
theorem dX3_add_33 : decode cX3_add 33 = .ok (.getfield 11, 3) := by decide +kernel
theorem dX3_add_36 : decode cX3_add 36 = .ok (.iconst 0, 1) := by decide +kernel
theorem dX3_add_37 : decode cX3_add 37 = .ok (.aaload, 1) := by decide +kernel
theorem dX3_add_38 : decode cX3_add 38 = .ok (.iconst 0, 1) := by decide +kernel
theorem dX3_add_39 : decode cX3_add 39 = .ok (.aload_n 1, 1) := by decide +kernel
theorem dX3_add_40 : decode cX3_add 40 = .ok (.getfield 28, 3) := by decide +kernel
theorem dX3_add_43 : decode cX3_add 43 = .ok (.iastore, 1) := by decide +kernel
theorem dX3_add_44 : decode cX3_add 44 = .ok (.aload_n 0, 1) := by decide +kernel
theorem dX3_add_45 : decode cX3_add 45 = .ok (.getfield 11, 3) := by decide +kernel
theorem dX3_add_48 : decode cX3_add 48 = .ok (.iconst 1, 1) := by decide +kernel
theorem dX3_add_49 : decode cX3_add 49 = .ok (.aaload, 1) := by decide +kernel
theorem dX3_add_50 : decode cX3_add 50 = .ok (.iconst 0, 1) := by decide +kernel
theorem dX3_add_51 : decode cX3_add 51 = .ok (.aload_n 1, 1) := by decide +kernel
theorem dX3_add_52 : decode cX3_add 52 = .ok (.getfield 33, 3) := by decide +kernel
theorem dX3_add_55 : decode cX3_add 55 = .ok (.iastore, 1) := by decide +kernel
theorem dX3_add_56 : decode cX3_add 56 = .ok (.aload_n 0, 1) := by decide +kernel
theorem dX3_add_57 : decode cX3_add 57 = .ok (.getfield 11, 3) := by decide +kernel
theorem dX3_add_60 : decode cX3_add 60 = .ok (.iconst 2, 1) := by decide +kernel
theorem dX3_add_61 : decode cX3_add 61 = .ok (.aaload, 1) := by decide +kernel
theorem dX3_add_62 : decode cX3_add 62 = .ok (.iconst 0, 1) := by decide +kernel
theorem dX3_add_63 : decode cX3_add 63 = .ok (.aload_n 1, 1) := by decide +kernel
theorem dX3_add_64 : decode cX3_add 64 = .ok (.getfield 36, 3) := by decide +kernel
theorem dX3_add_67 : decode cX3_add 67 = .ok (.iastore, 1) := by decide +kernel
theorem dX3_add_68 : decode cX3_add 68 = .ok (.aload_n 0, 1) := by decide +kernel
theorem dX3_add_69 : decode cX3_add 69 = .ok (.getfield 11, 3) := by decide +kernel
theorem dX3_add_72 : decode cX3_add 72 = .ok (.iconst 3, 1) := by decide +kernel
theorem dX3_add_73 : decode cX3_add 73 = .ok (.aaload, 1) := by decide +kernel
theorem dX3_add_74 : decode cX3_add 74 = .ok (.iconst 0, 1) := by decide +kernel
theorem dX3_add_75 : decode cX3_add 75 = .ok (.aload_n 1, 1) := by decide +kernel
theorem dX3_add_76 : decode cX3_add 76 = .ok (.getfield 39, 3) := by decide +kernel
theorem dX3_add_79 : decode cX3_add 79 = .ok (.iastore, 1) := by decide +kernel
theorem dX3_add_80 : decode cX3_add 80 = .ok (.aload_n 0, 1) := by decide +kernel
theorem dX3_add_81 : decode cX3_add 81 = .ok (.bipush 10, 2) := by decide +kernel
theorem dX3_add_83 : decode cX3_add 83 = .ok (.aload_n 0, 1) := by decide +kernel
theorem dX3_add_84 : decode cX3_add 84 = .ok (.getfield 14, 3) := by decide +kernel
theorem dX3_add_87 : decode cX3_add 87 = .ok (.iconst 1, 1) := by decide +kernel
theorem dX3_add_88 : decode cX3_add 88 = .ok (.iadd, 1) := by decide +kernel
theorem dX3_add_89 : decode cX3_add 89 = .ok (.invokestatic 42, 3) := by decide +kernel
theorem dX3_add_92 : decode cX3_add 92 = .ok (.putfield 14, 3) := by decide +kernel
theorem dX3_add_95 : decode cX3_add 95 = .ok (.return_, 1) := by decide +kernel
theorem dX4_init_0 : decode cX4_init 0 = .ok (.aload_n 0, 1) := by decide +kernel
theorem dX4_init_1 : decode cX4_init 1 = .ok (.invokespecial 1, 3) := by decide +kernel
theorem dX4_init_4 : decode cX4_init 4 = .ok (.aload_n 0, 1) := by decide +kernel
theorem dX4_init_5 : decode cX4_init 5 = .ok (.getstatic 7, 3) := by decide +kernel
theorem dX4_init_8 : decode cX4_init 8 = .ok (.invokevirtual 13, 3) := by decide +kernel
theorem dX4_init_11 : decode cX4_init 11 = .ok (.checkcast 14, 3) := by decide +kernel
theorem dX4_init_14 : decode cX4_init 14 = .ok (.putfield 18, 3) := by decide +kernel
theorem dX4_init_17 : decode cX4_init 17 = .ok (.return_, 1) := by decide +kernel
theorem dX4_copyFrom_0 : decode cX4_copyFrom 0 = .ok (.aload_n 1, 1) := by decide +kernel
theorem dX4_copyFrom_1 : decode cX4_copyFrom 1 = .ok (.getfield 18, 3) := by decide +kernel
theorem dX4_copyFrom_4 : decode cX4_copyFrom 4 = .ok (.iconst 0, 1) := by decide +kernel
theorem dX4_copyFrom_5 : decode cX4_copyFrom 5 = .ok (.aload_n 0, 1) := by decide +kernel
theorem dX4_copyFrom_6 : decode cX4_copyFrom 6 = .ok (.getfield 18, 3) := by decide +kernel
theorem dX4_copyFrom_9 : decode cX4_copyFrom 9 = .ok (.iconst 0, 1) := by decide +kernel
theorem dX4_copyFrom_10 : decode cX4_copyFrom 10 = .ok (.iconst 4, 1) := by decide +kernel
theorem dX4_copyFrom_11 : decode cX4_copyFrom 11 = .ok (.invokestatic 21, 3) := by decide +kernel
theorem dX4_copyFrom_14 : decode cX4_copyFrom 14 = .ok (.return_, 1) := by decide +kernel
theorem dX4_allows_0 : decode cX4_allows 0 = .ok (.iload_n 1, 1) := by decide +kernel
theorem dX4_allows_1 : decode cX4_allows 1 = .ok (.ifCond .lt 30, 3) := by decide +kernel
theorem dX4_allows_4 : decode cX4_allows 4 = .ok (.iload_n 1, 1) := by decide +kernel
theorem dX4_allows_5 : decode cX4_allows 5 = .ok (.iconst 4, 1) := by decide +kernel
theorem dX4_allows_6 : decode cX4_allows 6 = .ok (.if_icmp .ge 25, 3) := by decide +kernel
theorem dX4_allows_9 : decode cX4_allows 9 = .ok (.iload_n 2, 1) := by decide +kernel
theorem dX4_allows_10 : decode cX4_allows 10 = .ok (.getstatic 27, 3) := by decide +kernel
theorem dX4_allows_13 : decode cX4_allows 13 = .ok (.iload_n 1, 1) := by decide +kernel
theorem dX4_allows_14 : decode cX4_allows 14 = .ok (.iaload, 1) := by decide +kernel
theorem dX4_allows_15 : decode cX4_allows 15 = .ok (.if_icmp .lt 16, 3) := by decide +kernel
theorem dX4_allows_18 : decode cX4_allows 18 = .ok (.iload_n 2, 1) := by decide +kernel
theorem dX4_allows_19 : decode cX4_allows 19 = .ok (.getstatic 30, 3) := by decide +kernel
theorem dX4_allows_22 : decode cX4_allows 22 = .ok (.iload_n 1, 1) := by decide +kernel
theorem dX4_allows_23 : decode cX4_allows 23 = .ok (.iaload, 1) := by decide +kernel
theorem dX4_allows_24 : decode cX4_allows 24 = .ok (.if_icmp .gt 7, 3) := by decide +kernel
theorem dX4_allows_27 : decode cX4_allows 27 = .ok (.iconst 1, 1) := by decide +kernel
theorem dX4_allows_28 : decode cX4_allows 28 = .ok (.goto 4, 3) := by decide +kernel
theorem dX4_allows_31 : decode cX4_allows 31 = .ok (.iconst 0, 1) := by decide +kernel
theorem dX4_allows_32 : decode cX4_allows 32 = .ok (.ireturn, 1) := by decide +kernel
theorem dX4_value_0 : decode cX4_value 0 = .ok (.iload_n 1, 1) := by decide +kernel
theorem dX4_value_1 : decode cX4_value 1 = .ok (.ifCond .lt 17, 3) := by decide +kernel
theorem dX4_value_4 : decode cX4_value 4 = .ok (.iload_n 1, 1) := by decide +kernel
theorem dX4_value_5 : decode cX4_value 5 = .ok (.iconst 4, 1) := by decide +kernel
theorem dX4_value_6 : decode cX4_value 6 = .ok (.if_icmp .ge 12, 3) := by decide +kernel
theorem dX4_value_9 : decode cX4_value 9 = .ok (.aload_n 0, 1) := by decide +kernel
theorem dX4_value_10 : decode cX4_value 10 = .ok (.getfield 18, 3) := by decide +kernel
theorem dX4_value_13 : decode cX4_value 13 = .ok (.iload_n 1, 1) := by decide +kernel
theorem dX4_value_14 : decode cX4_value 14 = .ok (.iaload, 1) := by decide +kernel
theorem dX4_value_15 : decode cX4_value 15 = .ok (.goto 4, 3) := by decide +kernel
theorem dX4_value_18 : decode cX4_value 18 = .ok (.iconst 0, 1) := by decide +kernel
theorem dX4_value_19 : decode cX4_value 19 = .ok (.ireturn, 1) := by decide +kernel
theorem dX4_change_0 : decode cX4_change 0 = .ok (.aload_n 0, 1) := by decide +kernel
theorem dX4_change_1 : decode cX4_change 1 = .ok (.iload_n 1, 1) := by decide +kernel
theorem dX4_change_2 : decode cX4_change 2 = .ok (.invokevirtual 33, 3) := by decide +kernel
theorem dX4_change_5 : decode cX4_change 5 = .ok (.istore_n 3, 1) := by decide +kernel
theorem dX4_change_6 : decode cX4_change 6 = .ok (.aload_n 0, 1) := by decide +kernel
theorem dX4_change_7 : decode cX4_change 7 = .ok (.iload_n 1, 1) := by decide +kernel
theorem dX4_change_8 : decode cX4_change 8 = .ok (.iload_n 2, 1) := by decide +kernel
theorem dX4_change_9 : decode cX4_change 9 = .ok (.invokevirtual 37, 3) := by decide +kernel
theorem dX4_change_12 : decode cX4_change 12 = .ok (.ifCond .eq 10, 3) := by decide +kernel
theorem dX4_change_15 : decode cX4_change 15 = .ok (.aload_n 0, 1) := by decide +kernel
theorem dX4_change_16 : decode cX4_change 16 = .ok (.getfield 18, 3) := by decide +kernel
theorem dX4_change_19 : decode cX4_change 19 = .ok (.iload_n 1, 1) := by decide +kernel
theorem dX4_change_20 : decode cX4_change 20 = .ok (.iload_n 2, 1) := by decide +kernel
theorem dX4_change_21 : decode cX4_change 21 = .ok (.iastore, 1) := by decide +kernel
theorem dX4_change_22 : decode cX4_change 22 = .ok (.iload_n 3, 1) := by decide +kernel
theorem dX4_change_23 : decode cX4_change 23 = .ok (.ireturn, 1) := by decide +kernel
theorem dX5_init_0 : decode cX5_init 0 = .ok (.aload_n 0, 1) := by decide +kernel
theorem dX5_init_1 : decode cX5_init 1 = .ok (.invokespecial 1, 3) := by decide +kernel
theorem dX5_init_4 : decode cX5_init 4 = .ok (.aload_n 0, 1) := by decide +kernel
theorem dX5_init_5 : decode cX5_init 5 = .ok (.iconst 5, 1) := by decide +kernel
theorem dX5_init_6 : decode cX5_init 6 = .ok (.bipush 20, 2) := by decide +kernel
theorem dX5_init_8 : decode cX5_init 8 = .ok (.multianewarray 9 2, 4) := by decide +kernel
theorem dX5_init_12 : decode cX5_init 12 = .ok (.putfield 11, 3) := by decide +kernel
theorem dX5_init_15 : decode cX5_init 15 = .ok (.aload_n 0, 1) := by decide +kernel
theorem dX5_init_16 : decode cX5_init 16 = .ok (.iconst 0, 1) := by decide +kernel
theorem dX5_init_17 : decode cX5_init 17 = .ok (.putfield 14, 3) := by decide +kernel
theorem dX5_init_20 : decode cX5_init 20 = .ok (.return_, 1) := by decide +kernel
theorem dX5_copyFrom_0 : decode cX5_copyFrom 0 = .ok (.iconst 0, 1) := by decide +kernel
theorem dX5_copyFrom_1 : decode cX5_copyFrom 1 = .ok (.istore_n 2, 1) := by decide +kernel
theorem dX5_copyFrom_2 : decode cX5_copyFrom 2 = .ok (.iload_n 2, 1) := by decide +kernel
theorem dX5_copyFrom_3 : decode cX5_copyFrom 3 = .ok (.iconst 5, 1) := by decide +kernel
theorem dX5_copyFrom_4 : decode cX5_copyFrom 4 = .ok (.if_icmp .ge 28, 3) := by decide +kernel
theorem dX5_copyFrom_7 : decode cX5_copyFrom 7 = .ok (.aload_n 1, 1) := by decide +kernel
theorem dX5_copyFrom_8 : decode cX5_copyFrom 8 = .ok (.getfield 11, 3) := by decide +kernel
theorem dX5_copyFrom_11 : decode cX5_copyFrom 11 = .ok (.iload_n 2, 1) := by decide +kernel
theorem dX5_copyFrom_12 : decode cX5_copyFrom 12 = .ok (.aaload, 1) := by decide +kernel
theorem dX5_copyFrom_13 : decode cX5_copyFrom 13 = .ok (.iconst 0, 1) := by decide +kernel
theorem dX5_copyFrom_14 : decode cX5_copyFrom 14 = .ok (.aload_n 0, 1) := by decide +kernel
theorem dX5_copyFrom_15 : decode cX5_copyFrom 15 = .ok (.getfield 11, 3) := by decide +kernel
theorem dX5_copyFrom_18 : decode cX5_copyFrom 18 = .ok (.iload_n 2, 1) := by decide +kernel
theorem dX5_copyFrom_19 : decode cX5_copyFrom 19 = .ok (.aaload, 1) := by decide +kernel
theorem dX5_copyFrom_20 : decode cX5_copyFrom 20 = .ok (.iconst 0, 1) := by decide +kernel
theorem dX5_copyFrom_21 : decode cX5_copyFrom 21 = .ok (.bipush 20, 2) := by decide +kernel
theorem dX5_copyFrom_23 : decode cX5_copyFrom 23 = .ok (.invokestatic 18, 3) := by decide +kernel
theorem dX5_copyFrom_26 : decode cX5_copyFrom 26 = .ok (.iinc 2 1, 3) := by decide +kernel
theorem dX5_copyFrom_29 : decode cX5_copyFrom 29 = .ok (.goto (-27), 3) := by decide +kernel
theorem dX5_copyFrom_32 : decode cX5_copyFrom 32 = .ok (.aload_n 0, 1) := by decide +kernel
theorem dX5_copyFrom_33 : decode cX5_copyFrom 33 = .ok (.aload_n 1, 1) := by decide +kernel
theorem dX5_copyFrom_34 : decode cX5_copyFrom 34 = .ok (.getfield 14, 3) := by decide +kernel
theorem dX5_copyFrom_37 : decode cX5_copyFrom 37 = .ok (.putfield 14, 3) := by decide +kernel
theorem dX5_copyFrom_40 : decode cX5_copyFrom 40 = .ok (.return_, 1) := by decide +kernel
theorem dX5_has_0 : decode cX5_has 0 = .ok (.iload_n 1, 1) := by decide +kernel
theorem dX5_has_1 : decode cX5_has 1 = .ok (.ifCond .lt 21, 3) := by decide +kernel
theorem dX5_has_4 : decode cX5_has 4 = .ok (.iload_n 1, 1) := by decide +kernel
theorem dX5_has_5 : decode cX5_has 5 = .ok (.aload_n 0, 1) := by decide +kernel
theorem dX5_has_6 : decode cX5_has 6 = .ok (.getfield 14, 3) := by decide +kernel
theorem dX5_has_9 : decode cX5_has 9 = .ok (.if_icmp .ge 13, 3) := by decide +kernel
theorem dX5_has_12 : decode cX5_has 12 = .ok (.iload_n 1, 1) := by decide +kernel
theorem dX5_has_13 : decode cX5_has 13 = .ok (.bipush 20, 2) := by decide +kernel
theorem dX5_has_15 : decode cX5_has 15 = .ok (.if_icmp .ge 7, 3) := by decide +kernel
theorem dX5_has_18 : decode cX5_has 18 = .ok (.iconst 1, 1) := by decide +kernel
theorem dX5_has_19 : decode cX5_has 19 = .ok (.goto 4, 3) := by decide +kernel
theorem dX5_has_22 : decode cX5_has 22 = .ok (.iconst 0, 1) := by decide +kernel
theorem dX5_has_23 : decode cX5_has 23 = .ok (.ireturn, 1) := by decide +kernel
theorem dX5_allows_0 : decode cX5_allows 0 = .ok (.iload_n 0, 1) := by decide +kernel
theorem dX5_allows_1 : decode cX5_allows 1 = .ok (.ifCond .lt 13, 3) := by decide +kernel
theorem dX5_allows_4 : decode cX5_allows 4 = .ok (.iload_n 0, 1) := by decide +kernel
theorem dX5_allows_5 : decode cX5_allows 5 = .ok (.iconst 2, 1) := by decide +kernel
theorem dX5_allows_6 : decode cX5_allows 6 = .ok (.if_icmp .gt 8, 3) := by decide +kernel
theorem dX5_allows_9 : decode cX5_allows 9 = .ok (.iload_n 1, 1) := by decide +kernel
theorem dX5_allows_10 : decode cX5_allows 10 = .ok (.iconst 1, 1) := by decide +kernel
theorem dX5_allows_11 : decode cX5_allows 11 = .ok (.if_icmp .ge 5, 3) := by decide +kernel
theorem dX5_allows_14 : decode cX5_allows 14 = .ok (.iconst 0, 1) := by decide +kernel
theorem dX5_allows_15 : decode cX5_allows 15 = .ok (.ireturn, 1) := by decide +kernel
theorem dX5_allows_16 : decode cX5_allows 16 = .ok (.iload_n 1, 1) := by decide +kernel
theorem dX5_allows_17 : decode cX5_allows 17 = .ok (.iload_n 0, 1) := by decide +kernel
theorem dX5_allows_18 : decode cX5_allows 18 = .ok (.iconst 2, 1) := by decide +kernel
theorem dX5_allows_19 : decode cX5_allows 19 = .ok (.if_icmp .ne 8, 3) := by decide +kernel
theorem dX5_allows_22 : decode cX5_allows 22 = .ok (.bipush 99, 2) := by decide +kernel
theorem dX5_allows_24 : decode cX5_allows 24 = .ok (.goto 5, 3) := by decide +kernel
theorem dX5_allows_27 : decode cX5_allows 27 = .ok (.bipush 9, 2) := by decide +kernel
theorem dX5_allows_29 : decode cX5_allows 29 = .ok (.if_icmp .gt 7, 3) := by decide +kernel
theorem dX5_allows_32 : decode cX5_allows 32 = .ok (.iconst 1, 1) := by decide +kernel
theorem dX5_allows_33 : decode cX5_allows 33 = .ok (.goto 4, 3) := by decide +kernel
theorem dX5_allows_36 : decode cX5_allows 36 = .ok (.iconst 0, 1) := by decide +kernel
theorem dX5_allows_37 : decode cX5_allows 37 = .ok (.ireturn, 1) := by decide +kernel
theorem dX5_entry_0 : decode cX5_entry 0 = .ok (.aload_n 0, 1) := by decide +kernel
theorem dX5_entry_1 : decode cX5_entry 1 = .ok (.iload_n 1, 1) := by decide +kernel
theorem dX5_entry_2 : decode cX5_entry 2 = .ok (.invokevirtual 24, 3) := by decide +kernel
theorem dX5_entry_5 : decode cX5_entry 5 = .ok (.ifCond .eq 12, 3) := by decide +kernel
theorem dX5_entry_8 : decode cX5_entry 8 = .ok (.iload_n 2, 1) := by decide +kernel
theorem dX5_entry_9 : decode cX5_entry 9 = .ok (.ifCond .lt 8, 3) := by decide +kernel
theorem dX5_entry_12 : decode cX5_entry 12 = .ok (.iload_n 2, 1) := by decide +kernel
theorem dX5_entry_13 : decode cX5_entry 13 = .ok (.iconst 5, 1) := by decide +kernel
theorem dX5_entry_14 : decode cX5_entry 14 = .ok (.if_icmp .lt 5, 3) := by decide +kernel
theorem dX5_entry_17 : decode cX5_entry 17 = .ok (.iconst 0, 1) := by decide +kernel
theorem dX5_entry_18 : decode cX5_entry 18 = .ok (.ireturn, 1) := by decide +kernel
theorem dX5_entry_19 : decode cX5_entry 19 = .ok (.aload_n 0, 1) := by decide +kernel
theorem dX5_entry_20 : decode cX5_entry 20 = .ok (.getfield 11, 3) := by decide +kernel
theorem dX5_entry_23 : decode cX5_entry 23 = .ok (.iload_n 2, 1) := by decide +kernel
theorem dX5_entry_24 : decode cX5_entry 24 = .ok (.aaload, 1) := by decide +kernel
theorem dX5_entry_25 : decode cX5_entry 25 = .ok (.iload_n 1, 1) := by decide +kernel
theorem dX5_entry_26 : decode cX5_entry 26 = .ok (.iaload, 1) := by decide +kernel
theorem dX5_entry_27 : decode cX5_entry 27 = .ok (.ireturn, 1) := by decide +kernel
theorem dX5_insert_0 : decode cX5_insert 0 = .ok (.iload_n 1, 1) := by decide +kernel
theorem dX5_insert_1 : decode cX5_insert 1 = .ok (.ifCond .lt 20, 3) := by decide +kernel
theorem dX5_insert_4 : decode cX5_insert 4 = .ok (.iload_n 1, 1) := by decide +kernel
theorem dX5_insert_5 : decode cX5_insert 5 = .ok (.aload_n 0, 1) := by decide +kernel
theorem dX5_insert_6 : decode cX5_insert 6 = .ok (.getfield 14, 3) := by decide +kernel
theorem dX5_insert_9 : decode cX5_insert 9 = .ok (.if_icmp .gt 12, 3) := by decide +kernel
theorem dX5_insert_12 : decode cX5_insert 12 = .ok (.aload_n 0, 1) := by decide +kernel
theorem dX5_insert_13 : decode cX5_insert 13 = .ok (.getfield 14, 3) := by decide +kernel
theorem dX5_insert_16 : decode cX5_insert 16 = .ok (.bipush 20, 2) := by decide +kernel
theorem dX5_insert_18 : decode cX5_insert 18 = .ok (.if_icmp .lt 4, 3) := by decide +kernel
theorem dX5_insert_21 : decode cX5_insert 21 = .ok (.return_, 1) := by decide +kernel
theorem dX5_insert_22 : decode cX5_insert 22 = .ok (.iconst 0, 1) := by decide +kernel
theorem dX5_insert_23 : decode cX5_insert 23 = .ok (.istore 4, 2) := by decide +kernel
theorem dX5_insert_25 : decode cX5_insert 25 = .ok (.iload 4, 2) := by decide +kernel
theorem dX5_insert_27 : decode cX5_insert 27 = .ok (.iconst 5, 1) := by decide +kernel
theorem dX5_insert_28 : decode cX5_insert 28 = .ok (.if_icmp .ge 46, 3) := by decide +kernel
theorem dX5_insert_31 : decode cX5_insert 31 = .ok (.aload_n 0, 1) := by decide +kernel
theorem dX5_insert_32 : decode cX5_insert 32 = .ok (.getfield 11, 3) := by decide +kernel
theorem dX5_insert_35 : decode cX5_insert 35 = .ok (.iload 4, 2) := by decide +kernel
theorem dX5_insert_37 : decode cX5_insert 37 = .ok (.aaload, 1) := by decide +kernel
theorem dX5_insert_38 : decode cX5_insert 38 = .ok (.iload_n 1, 1) := by decide +kernel
theorem dX5_insert_39 : decode cX5_insert 39 = .ok (.aload_n 0, 1) := by decide +kernel
theorem dX5_insert_40 : decode cX5_insert 40 = .ok (.getfield 11, 3) := by decide +kernel
theorem dX5_insert_43 : decode cX5_insert 43 = .ok (.iload 4, 2) := by decide +kernel
theorem dX5_insert_45 : decode cX5_insert 45 = .ok (.aaload, 1) := by decide +kernel
theorem dX5_insert_46 : decode cX5_insert 46 = .ok (.iload_n 1, 1) := by decide +kernel
theorem dX5_insert_47 : decode cX5_insert 47 = .ok (.iconst 1, 1) := by decide +kernel
theorem dX5_insert_48 : decode cX5_insert 48 = .ok (.iadd, 1) := by decide +kernel
theorem dX5_insert_49 : decode cX5_insert 49 = .ok (.aload_n 0, 1) := by decide +kernel
theorem dX5_insert_50 : decode cX5_insert 50 = .ok (.getfield 14, 3) := by decide +kernel
theorem dX5_insert_53 : decode cX5_insert 53 = .ok (.iload_n 1, 1) := by decide +kernel
theorem dX5_insert_54 : decode cX5_insert 54 = .ok (.isub, 1) := by decide +kernel
theorem dX5_insert_55 : decode cX5_insert 55 = .ok (.invokestatic 18, 3) := by decide +kernel
theorem dX5_insert_58 : decode cX5_insert 58 = .ok (.aload_n 0, 1) := by decide +kernel
theorem dX5_insert_59 : decode cX5_insert 59 = .ok (.getfield 11, 3) := by decide +kernel
theorem dX5_insert_62 : decode cX5_insert 62 = .ok (.iload 4, 2) := by decide +kernel
theorem dX5_insert_64 : decode cX5_insert 64 = .ok (.aaload, 1) := by decide +kernel
theorem dX5_insert_65 : decode cX5_insert 65 = .ok (.iload_n 1, 1) := by decide +kernel
theorem dX5_insert_66 : decode cX5_insert 66 = .ok (.iconst 0, 1) := by decide +kernel
theorem dX5_insert_67 : decode cX5_insert 67 = .ok (.iastore, 1) := by decide +kernel
theorem dX5_insert_68 : decode cX5_insert 68 = .ok (.iinc 4 1, 3) := by decide +kernel
theorem dX5_insert_71 : decode cX5_insert 71 = .ok (.goto (-46), 3) := by decide +kernel
theorem dX5_insert_74 : decode cX5_insert 74 = .ok (.aload_n 0, 1) := by decide +kernel
theorem dX5_insert_75 : decode cX5_insert 75 = .ok (.getfield 11, 3) := by decide +kernel
theorem dX5_insert_78 : decode cX5_insert 78 = .ok (.iconst 0, 1) := by decide +kernel
theorem dX5_insert_79 : decode cX5_insert 79 = .ok (.aaload, 1) := by decide +kernel
theorem dX5_insert_80 : decode cX5_insert 80 = .ok (.iload_n 1, 1) := by decide +kernel
theorem dX5_insert_81 : decode cX5_insert 81 = .ok (.iload_n 2, 1) := by decide +kernel
theorem dX5_insert_82 : decode cX5_insert 82 = .ok (.iastore, 1) := by decide +kernel
theorem dX5_insert_83 : decode cX5_insert 83 = .ok (.aload_n 0, 1) := by decide +kernel
theorem dX5_insert_84 : decode cX5_insert 84 = .ok (.getfield 11, 3) := by decide +kernel
theorem dX5_insert_87 : decode cX5_insert 87 = .ok (.iconst 1, 1) := by decide +kernel
theorem dX5_insert_88 : decode cX5_insert 88 = .ok (.aaload, 1) := by decide +kernel
theorem dX5_insert_89 : decode cX5_insert 89 = .ok (.iload_n 1, 1) := by decide +kernel
theorem dX5_insert_90 : decode cX5_insert 90 = .ok (.iload_n 3, 1) := by decide +kernel
theorem dX5_insert_91 : decode cX5_insert 91 = .ok (.iastore, 1) := by decide +kernel
theorem dX5_insert_92 : decode cX5_insert 92 = .ok (.aload_n 0, 1) := by decide +kernel
theorem dX5_insert_93 : decode cX5_insert 93 = .ok (.dup, 1) := by decide +kernel
theorem dX5_insert_94 : decode cX5_insert 94 = .ok (.getfield 14, 3) := by decide +kernel
theorem dX5_insert_97 : decode cX5_insert 97 = .ok (.iconst 1, 1) := by decide +kernel
theorem dX5_insert_98 : decode cX5_insert 98 = .ok (.iadd, 1) := by decide +kernel
theorem dX5_insert_99 : decode cX5_insert 99 = .ok (.putfield 14, 3) := by decide +kernel
theorem dX5_insert_102 : decode cX5_insert 102 = .ok (.return_, 1) := by decide +kernel
theorem dX5_remove_0 : decode cX5_remove 0 = .ok (.aload_n 0, 1) := by decide +kernel
theorem dX5_remove_1 : decode cX5_remove 1 = .ok (.iload_n 1, 1) := by decide +kernel
theorem dX5_remove_2 : decode cX5_remove 2 = .ok (.invokevirtual 24, 3) := by decide +kernel
theorem dX5_remove_5 : decode cX5_remove 5 = .ok (.ifCond .ne 4, 3) := by decide +kernel
theorem dX5_remove_8 : decode cX5_remove 8 = .ok (.return_, 1) := by decide +kernel
theorem dX5_remove_9 : decode cX5_remove 9 = .ok (.iconst 0, 1) := by decide +kernel
theorem dX5_remove_10 : decode cX5_remove 10 = .ok (.istore_n 2, 1) := by decide +kernel
theorem dX5_remove_11 : decode cX5_remove 11 = .ok (.iload_n 2, 1) := by decide +kernel
theorem dX5_remove_12 : decode cX5_remove 12 = .ok (.iconst 5, 1) := by decide +kernel
theorem dX5_remove_13 : decode cX5_remove 13 = .ok (.if_icmp .ge 36, 3) := by decide +kernel
theorem dX5_remove_16 : decode cX5_remove 16 = .ok (.aload_n 0, 1) := by decide +kernel
theorem dX5_remove_17 : decode cX5_remove 17 = .ok (.getfield 11, 3) := by decide +kernel
theorem dX5_remove_20 : decode cX5_remove 20 = .ok (.iload_n 2, 1) := by decide +kernel
theorem dX5_remove_21 : decode cX5_remove 21 = .ok (.aaload, 1) := by decide +kernel
theorem dX5_remove_22 : decode cX5_remove 22 = .ok (.iload_n 1, 1) := by decide +kernel
theorem dX5_remove_23 : decode cX5_remove 23 = .ok (.iconst 1, 1) := by decide +kernel
theorem dX5_remove_24 : decode cX5_remove 24 = .ok (.iadd, 1) := by decide +kernel
theorem dX5_remove_25 : decode cX5_remove 25 = .ok (.aload_n 0, 1) := by decide +kernel
theorem dX5_remove_26 : decode cX5_remove 26 = .ok (.getfield 11, 3) := by decide +kernel
theorem dX5_remove_29 : decode cX5_remove 29 = .ok (.iload_n 2, 1) := by decide +kernel
theorem dX5_remove_30 : decode cX5_remove 30 = .ok (.aaload, 1) := by decide +kernel
theorem dX5_remove_31 : decode cX5_remove 31 = .ok (.iload_n 1, 1) := by decide +kernel
theorem dX5_remove_32 : decode cX5_remove 32 = .ok (.aload_n 0, 1) := by decide +kernel
theorem dX5_remove_33 : decode cX5_remove 33 = .ok (.getfield 14, 3) := by decide +kernel
theorem dX5_remove_36 : decode cX5_remove 36 = .ok (.iload_n 1, 1) := by decide +kernel
theorem dX5_remove_37 : decode cX5_remove 37 = .ok (.isub, 1) := by decide +kernel
theorem dX5_remove_38 : decode cX5_remove 38 = .ok (.iconst 1, 1) := by decide +kernel
theorem dX5_remove_39 : decode cX5_remove 39 = .ok (.isub, 1) := by decide +kernel
theorem dX5_remove_40 : decode cX5_remove 40 = .ok (.invokestatic 18, 3) := by decide +kernel
theorem dX5_remove_43 : decode cX5_remove 43 = .ok (.iinc 2 1, 3) := by decide +kernel
theorem dX5_remove_46 : decode cX5_remove 46 = .ok (.goto (-35), 3) := by decide +kernel
theorem dX5_remove_49 : decode cX5_remove 49 = .ok (.aload_n 0, 1) := by decide +kernel
theorem dX5_remove_50 : decode cX5_remove 50 = .ok (.dup, 1) := by decide +kernel
theorem dX5_remove_51 : decode cX5_remove 51 = .ok (.getfield 14, 3) := by decide +kernel
theorem dX5_remove_54 : decode cX5_remove 54 = .ok (.iconst 1, 1) := by decide +kernel
theorem dX5_remove_55 : decode cX5_remove 55 = .ok (.isub, 1) := by decide +kernel
theorem dX5_remove_56 : decode cX5_remove 56 = .ok (.putfield 14, 3) := by decide +kernel
theorem dX5_remove_59 : decode cX5_remove 59 = .ok (.return_, 1) := by decide +kernel
theorem dX5_noteEnd_0 : decode cX5_noteEnd 0 = .ok (.aload_n 0, 1) := by decide +kernel
theorem dX5_noteEnd_1 : decode cX5_noteEnd 1 = .ok (.iload_n 1, 1) := by decide +kernel
theorem dX5_noteEnd_2 : decode cX5_noteEnd 2 = .ok (.invokevirtual 24, 3) := by decide +kernel
theorem dX5_noteEnd_5 : decode cX5_noteEnd 5 = .ok (.ifCond .eq 29, 3) := by decide +kernel
theorem dX5_noteEnd_8 : decode cX5_noteEnd 8 = .ok (.iload_n 2, 1) := by decide +kernel
theorem dX5_noteEnd_9 : decode cX5_noteEnd 9 = .ok (.iconst 1, 1) := by decide +kernel
theorem dX5_noteEnd_10 : decode cX5_noteEnd 10 = .ok (.if_icmp .lt 24, 3) := by decide +kernel
theorem dX5_noteEnd_13 : decode cX5_noteEnd 13 = .ok (.iload_n 2, 1) := by decide +kernel
theorem dX5_noteEnd_14 : decode cX5_noteEnd 14 = .ok (.iconst 3, 1) := by decide +kernel
theorem dX5_noteEnd_15 : decode cX5_noteEnd 15 = .ok (.if_icmp .gt 19, 3) := by decide +kernel
theorem dX5_noteEnd_18 : decode cX5_noteEnd 18 = .ok (.aload_n 0, 1) := by decide +kernel
theorem dX5_noteEnd_19 : decode cX5_noteEnd 19 = .ok (.getfield 11, 3) := by decide +kernel
theorem dX5_noteEnd_22 : decode cX5_noteEnd 22 = .ok (.iconst 2, 1) := by decide +kernel
theorem dX5_noteEnd_23 : decode cX5_noteEnd 23 = .ok (.iload_n 2, 1) := by decide +kernel
theorem dX5_noteEnd_24 : decode cX5_noteEnd 24 = .ok (.iadd, 1) := by decide +kernel
theorem dX5_noteEnd_25 : decode cX5_noteEnd 25 = .ok (.iconst 1, 1) := by decide +kernel
theorem dX5_noteEnd_26 : decode cX5_noteEnd 26 = .ok (.isub, 1) := by decide +kernel
theorem dX5_noteEnd_27 : decode cX5_noteEnd 27 = .ok (.aaload, 1) := by decide +kernel
theorem dX5_noteEnd_28 : decode cX5_noteEnd 28 = .ok (.iload_n 1, 1) := by decide +kernel
theorem dX5_noteEnd_29 : decode cX5_noteEnd 29 = .ok (.dup2, 1) := by decide +kernel
theorem dX5_noteEnd_30 : decode cX5_noteEnd 30 = .ok (.iaload, 1) := by decide +kernel
theorem dX5_noteEnd_31 : decode cX5_noteEnd 31 = .ok (.iconst 1, 1) := by decide +kernel
theorem dX5_noteEnd_32 : decode cX5_noteEnd 32 = .ok (.iadd, 1) := by decide +kernel
theorem dX5_noteEnd_33 : decode cX5_noteEnd 33 = .ok (.iastore, 1) := by decide +kernel
theorem dX5_noteEnd_34 : decode cX5_noteEnd 34 = .ok (.return_, 1) := by decide +kernel
theorem dX5_sumOf_0 : decode cX5_sumOf 0 = .ok (.iconst 0, 1) := by decide +kernel
theorem dX5_sumOf_1 : decode cX5_sumOf 1 = .ok (.istore_n 2, 1) := by decide +kernel
theorem dX5_sumOf_2 : decode cX5_sumOf 2 = .ok (.iconst 0, 1) := by decide +kernel
theorem dX5_sumOf_3 : decode cX5_sumOf 3 = .ok (.istore_n 3, 1) := by decide +kernel
theorem dX5_sumOf_4 : decode cX5_sumOf 4 = .ok (.iload_n 3, 1) := by decide +kernel
theorem dX5_sumOf_5 : decode cX5_sumOf 5 = .ok (.aload_n 0, 1) := by decide +kernel
theorem dX5_sumOf_6 : decode cX5_sumOf 6 = .ok (.getfield 14, 3) := by decide +kernel
theorem dX5_sumOf_9 : decode cX5_sumOf 9 = .ok (.if_icmp .ge 28, 3) := by decide +kernel
theorem dX5_sumOf_12 : decode cX5_sumOf 12 = .ok (.aload_n 0, 1) := by decide +kernel
theorem dX5_sumOf_13 : decode cX5_sumOf 13 = .ok (.iload_n 3, 1) := by decide +kernel
theorem dX5_sumOf_14 : decode cX5_sumOf 14 = .ok (.iconst 0, 1) := by decide +kernel
theorem dX5_sumOf_15 : decode cX5_sumOf 15 = .ok (.invokevirtual 30, 3) := by decide +kernel
theorem dX5_sumOf_18 : decode cX5_sumOf 18 = .ok (.iload_n 1, 1) := by decide +kernel
theorem dX5_sumOf_19 : decode cX5_sumOf 19 = .ok (.if_icmp .ne 12, 3) := by decide +kernel
theorem dX5_sumOf_22 : decode cX5_sumOf 22 = .ok (.iload_n 2, 1) := by decide +kernel
theorem dX5_sumOf_23 : decode cX5_sumOf 23 = .ok (.aload_n 0, 1) := by decide +kernel
theorem dX5_sumOf_24 : decode cX5_sumOf 24 = .ok (.iload_n 3, 1) := by decide +kernel
theorem dX5_sumOf_25 : decode cX5_sumOf 25 = .ok (.iconst 1, 1) := by decide +kernel
theorem dX5_sumOf_26 : decode cX5_sumOf 26 = .ok (.invokevirtual 30, 3) := by decide +kernel
theorem dX5_sumOf_29 : decode cX5_sumOf 29 = .ok (.iadd, 1) := by decide +kernel
theorem dX5_sumOf_30 : decode cX5_sumOf 30 = .ok (.istore_n 2, 1) := by decide +kernel
theorem dX5_sumOf_31 : decode cX5_sumOf 31 = .ok (.iinc 3 1, 3) := by decide +kernel
theorem dX5_sumOf_34 : decode cX5_sumOf 34 = .ok (.goto (-30), 3) := by decide +kernel
theorem dX5_sumOf_37 : decode cX5_sumOf 37 = .ok (.iload_n 2, 1) := by decide +kernel
theorem dX5_sumOf_38 : decode cX5_sumOf 38 = .ok (.ireturn, 1) := by decide +kernel
theorem dX5_narrowestGate_0 : decode cX5_narrowestGate 0 = .ok (.iconst 0, 1) := by decide +kernel
theorem dX5_narrowestGate_1 : decode cX5_narrowestGate 1 = .ok (.istore_n 1, 1) := by decide +kernel
theorem dX5_narrowestGate_2 : decode cX5_narrowestGate 2 = .ok (.iconst 0, 1) := by decide +kernel
theorem dX5_narrowestGate_3 : decode cX5_narrowestGate 3 = .ok (.istore_n 2, 1) := by decide +kernel
theorem dX5_narrowestGate_4 : decode cX5_narrowestGate 4 = .ok (.iload_n 2, 1) := by decide +kernel
theorem dX5_narrowestGate_5 : decode cX5_narrowestGate 5 = .ok (.aload_n 0, 1) := by decide +kernel
theorem dX5_narrowestGate_6 : decode cX5_narrowestGate 6 = .ok (.getfield 14, 3) := by decide +kernel
theorem dX5_narrowestGate_9 : decode cX5_narrowestGate 9 = .ok (.if_icmp .ge 37, 3) := by decide +kernel
theorem dX5_narrowestGate_12 : decode cX5_narrowestGate 12 = .ok (.aload_n 0, 1) := by decide +kernel
theorem dX5_narrowestGate_13 : decode cX5_narrowestGate 13 = .ok (.iload_n 2, 1) := by decide +kernel
theorem dX5_narrowestGate_14 : decode cX5_narrowestGate 14 = .ok (.iconst 1, 1) := by decide +kernel
theorem dX5_narrowestGate_15 : decode cX5_narrowestGate 15 = .ok (.invokevirtual 30, 3) := by decide +kernel
theorem dX5_narrowestGate_18 : decode cX5_narrowestGate 18 = .ok (.istore_n 3, 1) := by decide +kernel
theorem dX5_narrowestGate_19 : decode cX5_narrowestGate 19 = .ok (.aload_n 0, 1) := by decide +kernel
theorem dX5_narrowestGate_20 : decode cX5_narrowestGate 20 = .ok (.iload_n 2, 1) := by decide +kernel
theorem dX5_narrowestGate_21 : decode cX5_narrowestGate 21 = .ok (.iconst 0, 1) := by decide +kernel
theorem dX5_narrowestGate_22 : decode cX5_narrowestGate 22 = .ok (.invokevirtual 30, 3) := by decide +kernel
theorem dX5_narrowestGate_25 : decode cX5_narrowestGate 25 = .ok (.iconst 2, 1) := by decide +kernel
theorem dX5_narrowestGate_26 : decode cX5_narrowestGate 26 = .ok (.if_icmp .ne 14, 3) := by decide +kernel
theorem dX5_narrowestGate_29 : decode cX5_narrowestGate 29 = .ok (.iload_n 1, 1) := by decide +kernel
theorem dX5_narrowestGate_30 : decode cX5_narrowestGate 30 = .ok (.ifCond .eq 8, 3) := by decide +kernel
theorem dX5_narrowestGate_33 : decode cX5_narrowestGate 33 = .ok (.iload_n 3, 1) := by decide +kernel
theorem dX5_narrowestGate_34 : decode cX5_narrowestGate 34 = .ok (.iload_n 1, 1) := by decide +kernel
theorem dX5_narrowestGate_35 : decode cX5_narrowestGate 35 = .ok (.if_icmp .ge 5, 3) := by decide +kernel
theorem dX5_narrowestGate_38 : decode cX5_narrowestGate 38 = .ok (.iload_n 3, 1) := by decide +kernel
theorem dX5_narrowestGate_39 : decode cX5_narrowestGate 39 = .ok (.istore_n 1, 1) := by decide +kernel
theorem dX5_narrowestGate_40 : decode cX5_narrowestGate 40 = .ok (.iinc 2 1, 3) := by decide +kernel
theorem dX5_narrowestGate_43 : decode cX5_narrowestGate 43 = .ok (.goto (-39), 3) := by decide +kernel
theorem dX5_narrowestGate_46 : decode cX5_narrowestGate 46 = .ok (.iload_n 1, 1) := by decide +kernel
theorem dX5_narrowestGate_47 : decode cX5_narrowestGate 47 = .ok (.ireturn, 1) := by decide +kernel
theorem dX6_init_0 : decode cX6_init 0 = .ok (.aload_n 0, 1) := by decide +kernel
theorem dX6_init_1 : decode cX6_init 1 = .ok (.invokespecial 3, 3) := by decide +kernel
theorem dX6_init_4 : decode cX6_init 4 = .ok (.aload_n 0, 1) := by decide +kernel
theorem dX6_init_5 : decode cX6_init 5 = .ok (.new 9, 3) := by decide +kernel
theorem dX6_init_8 : decode cX6_init 8 = .ok (.dup, 1) := by decide +kernel
theorem dX6_init_9 : decode cX6_init 9 = .ok (.invokespecial 11, 3) := by decide +kernel
theorem dX6_init_12 : decode cX6_init 12 = .ok (.putfield 12, 3) := by decide +kernel
theorem dX6_init_15 : decode cX6_init 15 = .ok (.aload_n 0, 1) := by decide +kernel
theorem dX6_init_16 : decode cX6_init 16 = .ok (.new 18, 3) := by decide +kernel
theorem dX6_init_19 : decode cX6_init 19 = .ok (.dup, 1) := by decide +kernel
theorem dX6_init_20 : decode cX6_init 20 = .ok (.invokespecial 20, 3) := by decide +kernel
theorem dX6_init_23 : decode cX6_init 23 = .ok (.putfield 21, 3) := by decide +kernel
theorem dX6_init_26 : decode cX6_init 26 = .ok (.aload_n 0, 1) := by decide +kernel
theorem dX6_init_27 : decode cX6_init 27 = .ok (.new 25, 3) := by decide +kernel
theorem dX6_init_30 : decode cX6_init 30 = .ok (.dup, 1) := by decide +kernel
theorem dX6_init_31 : decode cX6_init 31 = .ok (.invokespecial 27, 3) := by decide +kernel
theorem dX6_init_34 : decode cX6_init 34 = .ok (.putfield 28, 3) := by decide +kernel
theorem dX6_init_37 : decode cX6_init 37 = .ok (.aload_n 0, 1) := by decide +kernel
theorem dX6_init_38 : decode cX6_init 38 = .ok (.new 32, 3) := by decide +kernel
theorem dX6_init_41 : decode cX6_init 41 = .ok (.dup, 1) := by decide +kernel
theorem dX6_init_42 : decode cX6_init 42 = .ok (.invokespecial 34, 3) := by decide +kernel
theorem dX6_init_45 : decode cX6_init 45 = .ok (.putfield 35, 3) := by decide +kernel
theorem dX6_init_48 : decode cX6_init 48 = .ok (.aload_n 0, 1) := by decide +kernel
theorem dX6_init_49 : decode cX6_init 49 = .ok (.iconst 5, 1) := by decide +kernel
theorem dX6_init_50 : decode cX6_init 50 = .ok (.newarray .int, 2) := by decide +kernel
theorem dX6_init_52 : decode cX6_init 52 = .ok (.putfield 39, 3) := by decide +kernel
theorem dX6_init_55 : decode cX6_init 55 = .ok (.aload_n 0, 1) := by decide +kernel
theorem dX6_init_56 : decode cX6_init 56 = .ok (.iconst 0, 1) := by decide +kernel
theorem dX6_init_57 : decode cX6_init 57 = .ok (.putfield 43, 3) := by decide +kernel
theorem dX6_init_60 : decode cX6_init 60 = .ok (.aload_n 0, 1) := by decide +kernel
theorem dX6_init_61 : decode cX6_init 61 = .ok (.iconst 0, 1) := by decide +kernel
theorem dX6_init_62 : decode cX6_init 62 = .ok (.putfield 47, 3) := by decide +kernel
theorem dX6_init_65 : decode cX6_init 65 = .ok (.return_, 1) := by decide +kernel
theorem dX6_copyFrom_0 : decode cX6_copyFrom 0 = .ok (.aload_n 0, 1) := by decide +kernel
theorem dX6_copyFrom_1 : decode cX6_copyFrom 1 = .ok (.getfield 12, 3) := by decide +kernel
theorem dX6_copyFrom_4 : decode cX6_copyFrom 4 = .ok (.aload_n 1, 1) := by decide +kernel
theorem dX6_copyFrom_5 : decode cX6_copyFrom 5 = .ok (.getfield 12, 3) := by decide +kernel
theorem dX6_copyFrom_8 : decode cX6_copyFrom 8 = .ok (.invokevirtual 50, 3) := by decide +kernel
theorem dX6_copyFrom_11 : decode cX6_copyFrom 11 = .ok (.aload_n 0, 1) := by decide +kernel
theorem dX6_copyFrom_12 : decode cX6_copyFrom 12 = .ok (.getfield 21, 3) := by decide +kernel
theorem dX6_copyFrom_15 : decode cX6_copyFrom 15 = .ok (.aload_n 1, 1) := by decide +kernel
theorem dX6_copyFrom_16 : decode cX6_copyFrom 16 = .ok (.getfield 21, 3) := by decide +kernel
theorem dX6_copyFrom_19 : decode cX6_copyFrom 19 = .ok (.invokevirtual 54, 3) := by decide +kernel
theorem dX6_copyFrom_22 : decode cX6_copyFrom 22 = .ok (.aload_n 0, 1) := by decide +kernel
theorem dX6_copyFrom_23 : decode cX6_copyFrom 23 = .ok (.getfield 28, 3) := by decide +kernel
theorem dX6_copyFrom_26 : decode cX6_copyFrom 26 = .ok (.aload_n 1, 1) := by decide +kernel
theorem dX6_copyFrom_27 : decode cX6_copyFrom 27 = .ok (.getfield 28, 3) := by decide +kernel
theorem dX6_copyFrom_30 : decode cX6_copyFrom 30 = .ok (.invokevirtual 57, 3) := by decide +kernel
theorem dX6_copyFrom_33 : decode cX6_copyFrom 33 = .ok (.aload_n 0, 1) := by decide +kernel
theorem dX6_copyFrom_34 : decode cX6_copyFrom 34 = .ok (.getfield 35, 3) := by decide +kernel
theorem dX6_copyFrom_37 : decode cX6_copyFrom 37 = .ok (.aload_n 1, 1) := by decide +kernel
theorem dX6_copyFrom_38 : decode cX6_copyFrom 38 = .ok (.getfield 35, 3) := by decide +kernel
theorem dX6_copyFrom_41 : decode cX6_copyFrom 41 = .ok (.invokevirtual 60, 3) := by decide +kernel
theorem dX6_copyFrom_44 : decode cX6_copyFrom 44 = .ok (.aload_n 1, 1) := by decide +kernel
theorem dX6_copyFrom_45 : decode cX6_copyFrom 45 = .ok (.getfield 39, 3) := by decide +kernel
theorem dX6_copyFrom_48 : decode cX6_copyFrom 48 = .ok (.iconst 0, 1) := by decide +kernel
theorem dX6_copyFrom_49 : decode cX6_copyFrom 49 = .ok (.aload_n 0, 1) := by decide +kernel
theorem dX6_copyFrom_50 : decode cX6_copyFrom 50 = .ok (.getfield 39, 3) := by decide +kernel
theorem dX6_copyFrom_53 : decode cX6_copyFrom 53 = .ok (.iconst 0, 1) := by decide +kernel
theorem dX6_copyFrom_54 : decode cX6_copyFrom 54 = .ok (.iconst 5, 1) := by decide +kernel
theorem dX6_copyFrom_55 : decode cX6_copyFrom 55 = .ok (.invokestatic 63, 3) := by decide +kernel
theorem dX6_copyFrom_58 : decode cX6_copyFrom 58 = .ok (.aload_n 0, 1) := by decide +kernel
theorem dX6_copyFrom_59 : decode cX6_copyFrom 59 = .ok (.aload_n 1, 1) := by decide +kernel
theorem dX6_copyFrom_60 : decode cX6_copyFrom 60 = .ok (.getfield 43, 3) := by decide +kernel
theorem dX6_copyFrom_63 : decode cX6_copyFrom 63 = .ok (.putfield 43, 3) := by decide +kernel
theorem dX6_copyFrom_66 : decode cX6_copyFrom 66 = .ok (.aload_n 0, 1) := by decide +kernel
theorem dX6_copyFrom_67 : decode cX6_copyFrom 67 = .ok (.aload_n 1, 1) := by decide +kernel
theorem dX6_copyFrom_68 : decode cX6_copyFrom 68 = .ok (.getfield 47, 3) := by decide +kernel
theorem dX6_copyFrom_71 : decode cX6_copyFrom 71 = .ok (.putfield 47, 3) := by decide +kernel
theorem dX6_copyFrom_74 : decode cX6_copyFrom 74 = .ok (.return_, 1) := by decide +kernel
theorem dX6_partError_0 : decode cX6_partError 0 = .ok (.iload_n 1, 1) := by decide +kernel
theorem dX6_partError_1 : decode cX6_partError 1 = .ok (.ifCond .lt 14, 3) := by decide +kernel
theorem dX6_partError_4 : decode cX6_partError 4 = .ok (.iload_n 1, 1) := by decide +kernel
theorem dX6_partError_5 : decode cX6_partError 5 = .ok (.aload_n 0, 1) := by decide +kernel
theorem dX6_partError_6 : decode cX6_partError 6 = .ok (.getfield 21, 3) := by decide +kernel
theorem dX6_partError_9 : decode cX6_partError 9 = .ok (.getfield 69, 3) := by decide +kernel
theorem dX6_partError_12 : decode cX6_partError 12 = .ok (.if_icmp .le 5, 3) := by decide +kernel
theorem dX6_partError_15 : decode cX6_partError 15 = .ok (.iconst (-1), 1) := by decide +kernel
theorem dX6_partError_16 : decode cX6_partError 16 = .ok (.ireturn, 1) := by decide +kernel
theorem dX6_partError_17 : decode cX6_partError 17 = .ok (.iload_n 2, 1) := by decide +kernel
theorem dX6_partError_18 : decode cX6_partError 18 = .ok (.iload_n 3, 1) := by decide +kernel
theorem dX6_partError_19 : decode cX6_partError 19 = .ok (.invokestatic 72, 3) := by decide +kernel
theorem dX6_partError_22 : decode cX6_partError 22 = .ok (.ifCond .ne 6, 3) := by decide +kernel
theorem dX6_partError_25 : decode cX6_partError 25 = .ok (.bipush (-2), 2) := by decide +kernel
theorem dX6_partError_27 : decode cX6_partError 27 = .ok (.ireturn, 1) := by decide +kernel
theorem dX6_partError_28 : decode cX6_partError 28 = .ok (.aload_n 0, 1) := by decide +kernel
theorem dX6_partError_29 : decode cX6_partError 29 = .ok (.getfield 21, 3) := by decide +kernel
theorem dX6_partError_32 : decode cX6_partError 32 = .ok (.getfield 69, 3) := by decide +kernel
theorem dX6_partError_35 : decode cX6_partError 35 = .ok (.bipush 20, 2) := by decide +kernel
theorem dX6_partError_37 : decode cX6_partError 37 = .ok (.if_icmp .lt 8, 3) := by decide +kernel
theorem dX6_partError_40 : decode cX6_partError 40 = .ok (.bipush (-4), 2) := by decide +kernel
theorem dX6_partError_42 : decode cX6_partError 42 = .ok (.goto 4, 3) := by decide +kernel
theorem dX6_partError_45 : decode cX6_partError 45 = .ok (.iconst 0, 1) := by decide +kernel
theorem dX6_partError_46 : decode cX6_partError 46 = .ok (.ireturn, 1) := by decide +kernel
theorem dX6_addPart_0 : decode cX6_addPart 0 = .ok (.aload_n 0, 1) := by decide +kernel
theorem dX6_addPart_1 : decode cX6_addPart 1 = .ok (.getfield 21, 3) := by decide +kernel
theorem dX6_addPart_4 : decode cX6_addPart 4 = .ok (.iload_n 1, 1) := by decide +kernel
theorem dX6_addPart_5 : decode cX6_addPart 5 = .ok (.iload_n 2, 1) := by decide +kernel
theorem dX6_addPart_6 : decode cX6_addPart 6 = .ok (.iload_n 3, 1) := by decide +kernel
theorem dX6_addPart_7 : decode cX6_addPart 7 = .ok (.invokevirtual 76, 3) := by decide +kernel
theorem dX6_addPart_10 : decode cX6_addPart 10 = .ok (.aload_n 0, 1) := by decide +kernel
theorem dX6_addPart_11 : decode cX6_addPart 11 = .ok (.getfield 28, 3) := by decide +kernel
theorem dX6_addPart_14 : decode cX6_addPart 14 = .ok (.invokevirtual 80, 3) := by decide +kernel
theorem dX6_addPart_17 : decode cX6_addPart 17 = .ok (.aload_n 0, 1) := by decide +kernel
theorem dX6_addPart_18 : decode cX6_addPart 18 = .ok (.getfield 21, 3) := by decide +kernel
theorem dX6_addPart_21 : decode cX6_addPart 21 = .ok (.getfield 69, 3) := by decide +kernel
theorem dX6_addPart_24 : decode cX6_addPart 24 = .ok (.ireturn, 1) := by decide +kernel
theorem dX6_removePart_0 : decode cX6_removePart 0 = .ok (.aload_n 0, 1) := by decide +kernel
theorem dX6_removePart_1 : decode cX6_removePart 1 = .ok (.getfield 21, 3) := by decide +kernel
theorem dX6_removePart_4 : decode cX6_removePart 4 = .ok (.iload_n 1, 1) := by decide +kernel
theorem dX6_removePart_5 : decode cX6_removePart 5 = .ok (.invokevirtual 83, 3) := by decide +kernel
theorem dX6_removePart_8 : decode cX6_removePart 8 = .ok (.aload_n 0, 1) := by decide +kernel
theorem dX6_removePart_9 : decode cX6_removePart 9 = .ok (.getfield 28, 3) := by decide +kernel
theorem dX6_removePart_12 : decode cX6_removePart 12 = .ok (.invokevirtual 80, 3) := by decide +kernel
theorem dX6_removePart_15 : decode cX6_removePart 15 = .ok (.aload_n 0, 1) := by decide +kernel
theorem dX6_removePart_16 : decode cX6_removePart 16 = .ok (.getfield 21, 3) := by decide +kernel
theorem dX6_removePart_19 : decode cX6_removePart 19 = .ok (.getfield 69, 3) := by decide +kernel
theorem dX6_removePart_22 : decode cX6_removePart 22 = .ok (.ireturn, 1) := by decide +kernel
theorem dX6_beginRun_0 : decode cX6_beginRun 0 = .ok (.aload_n 0, 1) := by decide +kernel
theorem dX6_beginRun_1 : decode cX6_beginRun 1 = .ok (.getfield 28, 3) := by decide +kernel
theorem dX6_beginRun_4 : decode cX6_beginRun 4 = .ok (.iload_n 1, 1) := by decide +kernel
theorem dX6_beginRun_5 : decode cX6_beginRun 5 = .ok (.invokevirtual 87, 3) := by decide +kernel
theorem dX6_beginRun_8 : decode cX6_beginRun 8 = .ok (.aload_n 0, 1) := by decide +kernel
theorem dX6_beginRun_9 : decode cX6_beginRun 9 = .ok (.dup, 1) := by decide +kernel
theorem dX6_beginRun_10 : decode cX6_beginRun 10 = .ok (.getfield 43, 3) := by decide +kernel
theorem dX6_beginRun_13 : decode cX6_beginRun 13 = .ok (.iconst 1, 1) := by decide +kernel
theorem dX6_beginRun_14 : decode cX6_beginRun 14 = .ok (.iadd, 1) := by decide +kernel
theorem dX6_beginRun_15 : decode cX6_beginRun 15 = .ok (.putfield 43, 3) := by decide +kernel
theorem dX6_beginRun_18 : decode cX6_beginRun 18 = .ok (.aload_n 0, 1) := by decide +kernel
theorem dX6_beginRun_19 : decode cX6_beginRun 19 = .ok (.getfield 43, 3) := by decide +kernel
theorem dX6_beginRun_22 : decode cX6_beginRun 22 = .ok (.ireturn, 1) := by decide +kernel
theorem dX6_rollError_0 : decode cX6_rollError 0 = .ok (.iload_n 1, 1) := by decide +kernel
theorem dX6_rollError_1 : decode cX6_rollError 1 = .ok (.iconst 1, 1) := by decide +kernel
theorem dX6_rollError_2 : decode cX6_rollError 2 = .ok (.if_icmp .lt 9, 3) := by decide +kernel
theorem dX6_rollError_5 : decode cX6_rollError 5 = .ok (.iload_n 1, 1) := by decide +kernel
theorem dX6_rollError_6 : decode cX6_rollError 6 = .ok (.bipush 20, 2) := by decide +kernel
theorem dX6_rollError_8 : decode cX6_rollError 8 = .ok (.if_icmp .le 6, 3) := by decide +kernel
theorem dX6_rollError_11 : decode cX6_rollError 11 = .ok (.bipush (-2), 2) := by decide +kernel
theorem dX6_rollError_13 : decode cX6_rollError 13 = .ok (.ireturn, 1) := by decide +kernel
theorem dX6_rollError_14 : decode cX6_rollError 14 = .ok (.aload_n 0, 1) := by decide +kernel
theorem dX6_rollError_15 : decode cX6_rollError 15 = .ok (.getfield 28, 3) := by decide +kernel
theorem dX6_rollError_18 : decode cX6_rollError 18 = .ok (.invokevirtual 90, 3) := by decide +kernel
theorem dX6_rollError_21 : decode cX6_rollError 21 = .ok (.ifCond .eq 7, 3) := by decide +kernel
theorem dX6_rollError_24 : decode cX6_rollError 24 = .ok (.iconst 0, 1) := by decide +kernel
theorem dX6_rollError_25 : decode cX6_rollError 25 = .ok (.goto 5, 3) := by decide +kernel
theorem dX6_rollError_28 : decode cX6_rollError 28 = .ok (.bipush (-5), 2) := by decide +kernel
theorem dX6_rollError_30 : decode cX6_rollError 30 = .ok (.ireturn, 1) := by decide +kernel
theorem dX6_rollOver_0 : decode cX6_rollOver 0 = .ok (.aload_n 0, 1) := by decide +kernel
theorem dX6_rollOver_1 : decode cX6_rollOver 1 = .ok (.getfield 28, 3) := by decide +kernel
theorem dX6_rollOver_4 : decode cX6_rollOver 4 = .ok (.iload_n 1, 1) := by decide +kernel
theorem dX6_rollOver_5 : decode cX6_rollOver 5 = .ok (.aload_n 0, 1) := by decide +kernel
theorem dX6_rollOver_6 : decode cX6_rollOver 6 = .ok (.getfield 21, 3) := by decide +kernel
theorem dX6_rollOver_9 : decode cX6_rollOver 9 = .ok (.aload_n 0, 1) := by decide +kernel
theorem dX6_rollOver_10 : decode cX6_rollOver 10 = .ok (.getfield 12, 3) := by decide +kernel
theorem dX6_rollOver_13 : decode cX6_rollOver 13 = .ok (.invokevirtual 94, 3) := by decide +kernel
theorem dX6_rollOver_16 : decode cX6_rollOver 16 = .ok (.aload_n 0, 1) := by decide +kernel
theorem dX6_rollOver_17 : decode cX6_rollOver 17 = .ok (.getfield 28, 3) := by decide +kernel
theorem dX6_rollOver_20 : decode cX6_rollOver 20 = .ok (.invokevirtual 90, 3) := by decide +kernel
theorem dX6_rollOver_23 : decode cX6_rollOver 23 = .ok (.ifCond .ne 7, 3) := by decide +kernel
theorem dX6_rollOver_26 : decode cX6_rollOver 26 = .ok (.aload_n 0, 1) := by decide +kernel
theorem dX6_rollOver_27 : decode cX6_rollOver 27 = .ok (.invokevirtual 98, 3) := by decide +kernel
theorem dX6_rollOver_30 : decode cX6_rollOver 30 = .ok (.aload_n 0, 1) := by decide +kernel
theorem dX6_rollOver_31 : decode cX6_rollOver 31 = .ok (.getfield 28, 3) := by decide +kernel
theorem dX6_rollOver_34 : decode cX6_rollOver 34 = .ok (.getfield 101, 3) := by decide +kernel
theorem dX6_rollOver_37 : decode cX6_rollOver 37 = .ok (.ireturn, 1) := by decide +kernel
theorem dX6_noteEnd_0 : decode cX6_noteEnd 0 = .ok (.aload_n 0, 1) := by decide +kernel
theorem dX6_noteEnd_1 : decode cX6_noteEnd 1 = .ok (.getfield 21, 3) := by decide +kernel
theorem dX6_noteEnd_4 : decode cX6_noteEnd 4 = .ok (.aload_n 0, 1) := by decide +kernel
theorem dX6_noteEnd_5 : decode cX6_noteEnd 5 = .ok (.getfield 28, 3) := by decide +kernel
theorem dX6_noteEnd_8 : decode cX6_noteEnd 8 = .ok (.getfield 104, 3) := by decide +kernel
theorem dX6_noteEnd_11 : decode cX6_noteEnd 11 = .ok (.aload_n 0, 1) := by decide +kernel
theorem dX6_noteEnd_12 : decode cX6_noteEnd 12 = .ok (.getfield 28, 3) := by decide +kernel
theorem dX6_noteEnd_15 : decode cX6_noteEnd 15 = .ok (.getfield 101, 3) := by decide +kernel
theorem dX6_noteEnd_18 : decode cX6_noteEnd 18 = .ok (.invokevirtual 107, 3) := by decide +kernel
theorem dX6_noteEnd_21 : decode cX6_noteEnd 21 = .ok (.aload_n 0, 1) := by decide +kernel
theorem dX6_noteEnd_22 : decode cX6_noteEnd 22 = .ok (.getfield 35, 3) := by decide +kernel
theorem dX6_noteEnd_25 : decode cX6_noteEnd 25 = .ok (.aload_n 0, 1) := by decide +kernel
theorem dX6_noteEnd_26 : decode cX6_noteEnd 26 = .ok (.getfield 28, 3) := by decide +kernel
theorem dX6_noteEnd_29 : decode cX6_noteEnd 29 = .ok (.invokevirtual 110, 3) := by decide +kernel
theorem dX6_noteEnd_32 : decode cX6_noteEnd 32 = .ok (.aload_n 0, 1) := by decide +kernel
theorem dX6_noteEnd_33 : decode cX6_noteEnd 33 = .ok (.getfield 28, 3) := by decide +kernel
theorem dX6_noteEnd_36 : decode cX6_noteEnd 36 = .ok (.getfield 101, 3) := by decide +kernel
theorem dX6_noteEnd_39 : decode cX6_noteEnd 39 = .ok (.iconst 1, 1) := by decide +kernel
theorem dX6_noteEnd_40 : decode cX6_noteEnd 40 = .ok (.if_icmp .lt 30, 3) := by decide +kernel
theorem dX6_noteEnd_43 : decode cX6_noteEnd 43 = .ok (.aload_n 0, 1) := by decide +kernel
theorem dX6_noteEnd_44 : decode cX6_noteEnd 44 = .ok (.getfield 28, 3) := by decide +kernel
theorem dX6_noteEnd_47 : decode cX6_noteEnd 47 = .ok (.getfield 101, 3) := by decide +kernel
theorem dX6_noteEnd_50 : decode cX6_noteEnd 50 = .ok (.iconst 4, 1) := by decide +kernel
theorem dX6_noteEnd_51 : decode cX6_noteEnd 51 = .ok (.if_icmp .gt 19, 3) := by decide +kernel
theorem dX6_noteEnd_54 : decode cX6_noteEnd 54 = .ok (.aload_n 0, 1) := by decide +kernel
theorem dX6_noteEnd_55 : decode cX6_noteEnd 55 = .ok (.getfield 39, 3) := by decide +kernel
theorem dX6_noteEnd_58 : decode cX6_noteEnd 58 = .ok (.aload_n 0, 1) := by decide +kernel
theorem dX6_noteEnd_59 : decode cX6_noteEnd 59 = .ok (.getfield 28, 3) := by decide +kernel
theorem dX6_noteEnd_62 : decode cX6_noteEnd 62 = .ok (.getfield 101, 3) := by decide +kernel
theorem dX6_noteEnd_65 : decode cX6_noteEnd 65 = .ok (.dup2, 1) := by decide +kernel
theorem dX6_noteEnd_66 : decode cX6_noteEnd 66 = .ok (.iaload, 1) := by decide +kernel
theorem dX6_noteEnd_67 : decode cX6_noteEnd 67 = .ok (.iconst 1, 1) := by decide +kernel
theorem dX6_noteEnd_68 : decode cX6_noteEnd 68 = .ok (.iadd, 1) := by decide +kernel
theorem dX6_noteEnd_69 : decode cX6_noteEnd 69 = .ok (.iastore, 1) := by decide +kernel
theorem dX6_noteEnd_70 : decode cX6_noteEnd 70 = .ok (.return_, 1) := by decide +kernel
theorem dX6_tapError_0 : decode cX6_tapError 0 = .ok (.iload_n 1, 1) := by decide +kernel
theorem dX6_tapError_1 : decode cX6_tapError 1 = .ok (.ifCond .eq 11, 3) := by decide +kernel
theorem dX6_tapError_4 : decode cX6_tapError 4 = .ok (.iload_n 1, 1) := by decide +kernel
theorem dX6_tapError_5 : decode cX6_tapError 5 = .ok (.iconst 1, 1) := by decide +kernel
theorem dX6_tapError_6 : decode cX6_tapError 6 = .ok (.if_icmp .eq 6, 3) := by decide +kernel
theorem dX6_tapError_9 : decode cX6_tapError 9 = .ok (.bipush (-2), 2) := by decide +kernel
theorem dX6_tapError_11 : decode cX6_tapError 11 = .ok (.ireturn, 1) := by decide +kernel
theorem dX6_tapError_12 : decode cX6_tapError 12 = .ok (.aload_n 0, 1) := by decide +kernel
theorem dX6_tapError_13 : decode cX6_tapError 13 = .ok (.getfield 28, 3) := by decide +kernel
theorem dX6_tapError_16 : decode cX6_tapError 16 = .ok (.invokevirtual 90, 3) := by decide +kernel
theorem dX6_tapError_19 : decode cX6_tapError 19 = .ok (.ifCond .eq 7, 3) := by decide +kernel
theorem dX6_tapError_22 : decode cX6_tapError 22 = .ok (.iconst 0, 1) := by decide +kernel
theorem dX6_tapError_23 : decode cX6_tapError 23 = .ok (.goto 5, 3) := by decide +kernel
theorem dX6_tapError_26 : decode cX6_tapError 26 = .ok (.bipush (-5), 2) := by decide +kernel
theorem dX6_tapError_28 : decode cX6_tapError 28 = .ok (.ireturn, 1) := by decide +kernel
theorem dX6_tapFrom_0 : decode cX6_tapFrom 0 = .ok (.aload_n 0, 1) := by decide +kernel
theorem dX6_tapFrom_1 : decode cX6_tapFrom 1 = .ok (.getfield 28, 3) := by decide +kernel
theorem dX6_tapFrom_4 : decode cX6_tapFrom 4 = .ok (.iload_n 1, 1) := by decide +kernel
theorem dX6_tapFrom_5 : decode cX6_tapFrom 5 = .ok (.aload_n 0, 1) := by decide +kernel
theorem dX6_tapFrom_6 : decode cX6_tapFrom 6 = .ok (.getfield 12, 3) := by decide +kernel
theorem dX6_tapFrom_9 : decode cX6_tapFrom 9 = .ok (.iconst 3, 1) := by decide +kernel
theorem dX6_tapFrom_10 : decode cX6_tapFrom 10 = .ok (.invokevirtual 113, 3) := by decide +kernel
theorem dX6_tapFrom_13 : decode cX6_tapFrom 13 = .ok (.invokevirtual 117, 3) := by decide +kernel
theorem dX6_tapFrom_16 : decode cX6_tapFrom 16 = .ok (.aload_n 0, 1) := by decide +kernel
theorem dX6_tapFrom_17 : decode cX6_tapFrom 17 = .ok (.dup, 1) := by decide +kernel
theorem dX6_tapFrom_18 : decode cX6_tapFrom 18 = .ok (.getfield 47, 3) := by decide +kernel
theorem dX6_tapFrom_21 : decode cX6_tapFrom 21 = .ok (.iconst 1, 1) := by decide +kernel
theorem dX6_tapFrom_22 : decode cX6_tapFrom 22 = .ok (.iadd, 1) := by decide +kernel
theorem dX6_tapFrom_23 : decode cX6_tapFrom 23 = .ok (.putfield 47, 3) := by decide +kernel
theorem dX6_tapFrom_26 : decode cX6_tapFrom 26 = .ok (.aload_n 0, 1) := by decide +kernel
theorem dX6_tapFrom_27 : decode cX6_tapFrom 27 = .ok (.getfield 28, 3) := by decide +kernel
theorem dX6_tapFrom_30 : decode cX6_tapFrom 30 = .ok (.getfield 120, 3) := by decide +kernel
theorem dX6_tapFrom_33 : decode cX6_tapFrom 33 = .ok (.sipush 500, 3) := by decide +kernel
theorem dX6_tapFrom_36 : decode cX6_tapFrom 36 = .ok (.iadd, 1) := by decide +kernel
theorem dX6_tapFrom_37 : decode cX6_tapFrom 37 = .ok (.ireturn, 1) := by decide +kernel
theorem dX6_pushError_0 : decode cX6_pushError 0 = .ok (.aload_n 0, 1) := by decide +kernel
theorem dX6_pushError_1 : decode cX6_pushError 1 = .ok (.getfield 28, 3) := by decide +kernel
theorem dX6_pushError_4 : decode cX6_pushError 4 = .ok (.invokevirtual 90, 3) := by decide +kernel
theorem dX6_pushError_7 : decode cX6_pushError 7 = .ok (.ifCond .eq 7, 3) := by decide +kernel
theorem dX6_pushError_10 : decode cX6_pushError 10 = .ok (.iconst 0, 1) := by decide +kernel
theorem dX6_pushError_11 : decode cX6_pushError 11 = .ok (.goto 5, 3) := by decide +kernel
theorem dX6_pushError_14 : decode cX6_pushError 14 = .ok (.bipush (-5), 2) := by decide +kernel
theorem dX6_pushError_16 : decode cX6_pushError 16 = .ok (.ireturn, 1) := by decide +kernel
theorem dX6_pushOn_0 : decode cX6_pushOn 0 = .ok (.aload_n 0, 1) := by decide +kernel
theorem dX6_pushOn_1 : decode cX6_pushOn 1 = .ok (.getfield 28, 3) := by decide +kernel
theorem dX6_pushOn_4 : decode cX6_pushOn 4 = .ok (.invokevirtual 123, 3) := by decide +kernel
theorem dX6_pushOn_7 : decode cX6_pushOn 7 = .ok (.aload_n 0, 1) := by decide +kernel
theorem dX6_pushOn_8 : decode cX6_pushOn 8 = .ok (.getfield 28, 3) := by decide +kernel
theorem dX6_pushOn_11 : decode cX6_pushOn 11 = .ok (.getfield 126, 3) := by decide +kernel
theorem dX6_pushOn_14 : decode cX6_pushOn 14 = .ok (.ireturn, 1) := by decide +kernel
theorem dX6_number_0 : decode cX6_number 0 = .ok (.iload_n 1, 1) := by decide +kernel
theorem dX6_number_1 : decode cX6_number 1 = .ok (.tableswitch 118 0 8 #[51, 59, 64, 71, 78, 85, 92, 100, 109], 51) := by decide +kernel
theorem dX6_number_52 : decode cX6_number 52 = .ok (.aload_n 0, 1) := by decide +kernel
theorem dX6_number_53 : decode cX6_number 53 = .ok (.getfield 21, 3) := by decide +kernel
theorem dX6_number_56 : decode cX6_number 56 = .ok (.getfield 69, 3) := by decide +kernel
theorem dX6_number_59 : decode cX6_number 59 = .ok (.ireturn, 1) := by decide +kernel
theorem dX6_number_60 : decode cX6_number 60 = .ok (.aload_n 0, 1) := by decide +kernel
theorem dX6_number_61 : decode cX6_number 61 = .ok (.getfield 43, 3) := by decide +kernel
theorem dX6_number_64 : decode cX6_number 64 = .ok (.ireturn, 1) := by decide +kernel
theorem dX6_number_65 : decode cX6_number 65 = .ok (.aload_n 0, 1) := by decide +kernel
theorem dX6_number_66 : decode cX6_number 66 = .ok (.getfield 39, 3) := by decide +kernel
theorem dX6_number_69 : decode cX6_number 69 = .ok (.iconst 1, 1) := by decide +kernel
theorem dX6_number_70 : decode cX6_number 70 = .ok (.iaload, 1) := by decide +kernel
theorem dX6_number_71 : decode cX6_number 71 = .ok (.ireturn, 1) := by decide +kernel
theorem dX6_number_72 : decode cX6_number 72 = .ok (.aload_n 0, 1) := by decide +kernel
theorem dX6_number_73 : decode cX6_number 73 = .ok (.getfield 39, 3) := by decide +kernel
theorem dX6_number_76 : decode cX6_number 76 = .ok (.iconst 2, 1) := by decide +kernel
theorem dX6_number_77 : decode cX6_number 77 = .ok (.iaload, 1) := by decide +kernel
theorem dX6_number_78 : decode cX6_number 78 = .ok (.ireturn, 1) := by decide +kernel
theorem dX6_number_79 : decode cX6_number 79 = .ok (.aload_n 0, 1) := by decide +kernel
theorem dX6_number_80 : decode cX6_number 80 = .ok (.getfield 39, 3) := by decide +kernel
theorem dX6_number_83 : decode cX6_number 83 = .ok (.iconst 3, 1) := by decide +kernel
theorem dX6_number_84 : decode cX6_number 84 = .ok (.iaload, 1) := by decide +kernel
theorem dX6_number_85 : decode cX6_number 85 = .ok (.ireturn, 1) := by decide +kernel
theorem dX6_number_86 : decode cX6_number 86 = .ok (.aload_n 0, 1) := by decide +kernel
theorem dX6_number_87 : decode cX6_number 87 = .ok (.getfield 39, 3) := by decide +kernel
theorem dX6_number_90 : decode cX6_number 90 = .ok (.iconst 4, 1) := by decide +kernel
theorem dX6_number_91 : decode cX6_number 91 = .ok (.iaload, 1) := by decide +kernel
theorem dX6_number_92 : decode cX6_number 92 = .ok (.ireturn, 1) := by decide +kernel
theorem dX6_number_93 : decode cX6_number 93 = .ok (.aload_n 0, 1) := by decide +kernel
theorem dX6_number_94 : decode cX6_number 94 = .ok (.getfield 21, 3) := by decide +kernel
theorem dX6_number_97 : decode cX6_number 97 = .ok (.invokevirtual 129, 3) := by decide +kernel
theorem dX6_number_100 : decode cX6_number 100 = .ok (.ireturn, 1) := by decide +kernel
theorem dX6_number_101 : decode cX6_number 101 = .ok (.aload_n 0, 1) := by decide +kernel
theorem dX6_number_102 : decode cX6_number 102 = .ok (.getfield 21, 3) := by decide +kernel
theorem dX6_number_105 : decode cX6_number 105 = .ok (.iconst 0, 1) := by decide +kernel
theorem dX6_number_106 : decode cX6_number 106 = .ok (.invokevirtual 133, 3) := by decide +kernel
theorem dX6_number_109 : decode cX6_number 109 = .ok (.ireturn, 1) := by decide +kernel
theorem dX6_number_110 : decode cX6_number 110 = .ok (.aload_n 0, 1) := by decide +kernel
theorem dX6_number_111 : decode cX6_number 111 = .ok (.getfield 21, 3) := by decide +kernel
theorem dX6_number_114 : decode cX6_number 114 = .ok (.iconst 1, 1) := by decide +kernel
theorem dX6_number_115 : decode cX6_number 115 = .ok (.invokevirtual 133, 3) := by decide +kernel
theorem dX6_number_118 : decode cX6_number 118 = .ok (.ireturn, 1) := by decide +kernel
theorem dX6_number_119 : decode cX6_number 119 = .ok (.aload_n 0, 1) := by decide +kernel
theorem dX6_number_120 : decode cX6_number 120 = .ok (.getfield 47, 3) := by decide +kernel
theorem dX6_number_123 : decode cX6_number 123 = .ok (.ireturn, 1) := by decide +kernel
theorem dX7_init_0 : decode cX7_init 0 = .ok (.aload_n 0, 1) := by decide +kernel
theorem dX7_init_1 : decode cX7_init 1 = .ok (.invokespecial 1, 3) := by decide +kernel
theorem dX7_init_4 : decode cX7_init 4 = .ok (.aload_n 0, 1) := by decide +kernel
theorem dX7_init_5 : decode cX7_init 5 = .ok (.new 7, 3) := by decide +kernel
theorem dX7_init_8 : decode cX7_init 8 = .ok (.dup, 1) := by decide +kernel
theorem dX7_init_9 : decode cX7_init 9 = .ok (.invokespecial 9, 3) := by decide +kernel
theorem dX7_init_12 : decode cX7_init 12 = .ok (.putfield 10, 3) := by decide +kernel
theorem dX7_init_15 : decode cX7_init 15 = .ok (.aload_n 0, 1) := by decide +kernel
theorem dX7_init_16 : decode cX7_init 16 = .ok (.new 16, 3) := by decide +kernel
theorem dX7_init_19 : decode cX7_init 19 = .ok (.dup, 1) := by decide +kernel
theorem dX7_init_20 : decode cX7_init 20 = .ok (.invokespecial 18, 3) := by decide +kernel
theorem dX7_init_23 : decode cX7_init 23 = .ok (.putfield 19, 3) := by decide +kernel
theorem dX7_init_26 : decode cX7_init 26 = .ok (.aload_n 0, 1) := by decide +kernel
theorem dX7_init_27 : decode cX7_init 27 = .ok (.iconst 2, 1) := by decide +kernel
theorem dX7_init_28 : decode cX7_init 28 = .ok (.anewarray 7, 3) := by decide +kernel
theorem dX7_init_31 : decode cX7_init 31 = .ok (.putfield 23, 3) := by decide +kernel
theorem dX7_init_34 : decode cX7_init 34 = .ok (.iconst 0, 1) := by decide +kernel
theorem dX7_init_35 : decode cX7_init 35 = .ok (.istore_n 1, 1) := by decide +kernel
theorem dX7_init_36 : decode cX7_init 36 = .ok (.iload_n 1, 1) := by decide +kernel
theorem dX7_init_37 : decode cX7_init 37 = .ok (.iconst 2, 1) := by decide +kernel
theorem dX7_init_38 : decode cX7_init 38 = .ok (.if_icmp .ge 22, 3) := by decide +kernel
theorem dX7_init_41 : decode cX7_init 41 = .ok (.aload_n 0, 1) := by decide +kernel
theorem dX7_init_42 : decode cX7_init 42 = .ok (.getfield 23, 3) := by decide +kernel
theorem dX7_init_45 : decode cX7_init 45 = .ok (.iload_n 1, 1) := by decide +kernel
theorem dX7_init_46 : decode cX7_init 46 = .ok (.new 7, 3) := by decide +kernel
theorem dX7_init_49 : decode cX7_init 49 = .ok (.dup, 1) := by decide +kernel
theorem dX7_init_50 : decode cX7_init 50 = .ok (.invokespecial 9, 3) := by decide +kernel
theorem dX7_init_53 : decode cX7_init 53 = .ok (.aastore, 1) := by decide +kernel
theorem dX7_init_54 : decode cX7_init 54 = .ok (.iinc 1 1, 3) := by decide +kernel
theorem dX7_init_57 : decode cX7_init 57 = .ok (.goto (-21), 3) := by decide +kernel
theorem dX7_init_60 : decode cX7_init 60 = .ok (.aload_n 0, 1) := by decide +kernel
theorem dX7_init_61 : decode cX7_init 61 = .ok (.iconst 2, 1) := by decide +kernel
theorem dX7_init_62 : decode cX7_init 62 = .ok (.newarray .boolean, 2) := by decide +kernel
theorem dX7_init_64 : decode cX7_init 64 = .ok (.putfield 27, 3) := by decide +kernel
theorem dX7_init_67 : decode cX7_init 67 = .ok (.aload_n 0, 1) := by decide +kernel
theorem dX7_init_68 : decode cX7_init 68 = .ok (.new 31, 3) := by decide +kernel
theorem dX7_init_71 : decode cX7_init 71 = .ok (.dup, 1) := by decide +kernel
theorem dX7_init_72 : decode cX7_init 72 = .ok (.invokespecial 33, 3) := by decide +kernel
theorem dX7_init_75 : decode cX7_init 75 = .ok (.putfield 34, 3) := by decide +kernel
theorem dX7_init_78 : decode cX7_init 78 = .ok (.aload_n 0, 1) := by decide +kernel
theorem dX7_init_79 : decode cX7_init 79 = .ok (.new 38, 3) := by decide +kernel
theorem dX7_init_82 : decode cX7_init 82 = .ok (.dup, 1) := by decide +kernel
theorem dX7_init_83 : decode cX7_init 83 = .ok (.invokespecial 40, 3) := by decide +kernel
theorem dX7_init_86 : decode cX7_init 86 = .ok (.putfield 41, 3) := by decide +kernel
theorem dX7_init_89 : decode cX7_init 89 = .ok (.return_, 1) := by decide +kernel
theorem dX7_set_0 : decode cX7_set 0 = .ok (.aload_n 0, 1) := by decide +kernel
theorem dX7_set_1 : decode cX7_set 1 = .ok (.getfield 10, 3) := by decide +kernel
theorem dX7_set_4 : decode cX7_set 4 = .ok (.getfield 45, 3) := by decide +kernel
theorem dX7_set_7 : decode cX7_set 7 = .ok (.iload_n 1, 1) := by decide +kernel
theorem dX7_set_8 : decode cX7_set 8 = .ok (.iload_n 2, 1) := by decide +kernel
theorem dX7_set_9 : decode cX7_set 9 = .ok (.invokevirtual 49, 3) := by decide +kernel
theorem dX7_set_12 : decode cX7_set 12 = .ok (.ifCond .ne 6, 3) := by decide +kernel
theorem dX7_set_15 : decode cX7_set 15 = .ok (.bipush (-2), 2) := by decide +kernel
theorem dX7_set_17 : decode cX7_set 17 = .ok (.ireturn, 1) := by decide +kernel
theorem dX7_set_18 : decode cX7_set 18 = .ok (.aload_n 0, 1) := by decide +kernel
theorem dX7_set_19 : decode cX7_set 19 = .ok (.getfield 19, 3) := by decide +kernel
theorem dX7_set_22 : decode cX7_set 22 = .ok (.aload_n 0, 1) := by decide +kernel
theorem dX7_set_23 : decode cX7_set 23 = .ok (.getfield 10, 3) := by decide +kernel
theorem dX7_set_26 : decode cX7_set 26 = .ok (.invokevirtual 55, 3) := by decide +kernel
theorem dX7_set_29 : decode cX7_set 29 = .ok (.aload_n 0, 1) := by decide +kernel
theorem dX7_set_30 : decode cX7_set 30 = .ok (.getfield 10, 3) := by decide +kernel
theorem dX7_set_33 : decode cX7_set 33 = .ok (.getfield 45, 3) := by decide +kernel
theorem dX7_set_36 : decode cX7_set 36 = .ok (.iload_n 1, 1) := by decide +kernel
theorem dX7_set_37 : decode cX7_set 37 = .ok (.iload_n 2, 1) := by decide +kernel
theorem dX7_set_38 : decode cX7_set 38 = .ok (.invokevirtual 59, 3) := by decide +kernel
theorem dX7_set_41 : decode cX7_set 41 = .ok (.ireturn, 1) := by decide +kernel
theorem dX7_part_0 : decode cX7_part 0 = .ok (.aload_n 0, 1) := by decide +kernel
theorem dX7_part_1 : decode cX7_part 1 = .ok (.getfield 10, 3) := by decide +kernel
theorem dX7_part_4 : decode cX7_part 4 = .ok (.iload_n 1, 1) := by decide +kernel
theorem dX7_part_5 : decode cX7_part 5 = .ok (.iload_n 2, 1) := by decide +kernel
theorem dX7_part_6 : decode cX7_part 6 = .ok (.iload_n 3, 1) := by decide +kernel
theorem dX7_part_7 : decode cX7_part 7 = .ok (.invokevirtual 63, 3) := by decide +kernel
theorem dX7_part_10 : decode cX7_part 10 = .ok (.istore 4, 2) := by decide +kernel
theorem dX7_part_12 : decode cX7_part 12 = .ok (.iload 4, 2) := by decide +kernel
theorem dX7_part_14 : decode cX7_part 14 = .ok (.ifCond .eq 6, 3) := by decide +kernel
theorem dX7_part_17 : decode cX7_part 17 = .ok (.iload 4, 2) := by decide +kernel
theorem dX7_part_19 : decode cX7_part 19 = .ok (.ireturn, 1) := by decide +kernel
theorem dX7_part_20 : decode cX7_part 20 = .ok (.aload_n 0, 1) := by decide +kernel
theorem dX7_part_21 : decode cX7_part 21 = .ok (.getfield 19, 3) := by decide +kernel
theorem dX7_part_24 : decode cX7_part 24 = .ok (.aload_n 0, 1) := by decide +kernel
theorem dX7_part_25 : decode cX7_part 25 = .ok (.getfield 10, 3) := by decide +kernel
theorem dX7_part_28 : decode cX7_part 28 = .ok (.invokevirtual 55, 3) := by decide +kernel
theorem dX7_part_31 : decode cX7_part 31 = .ok (.aload_n 0, 1) := by decide +kernel
theorem dX7_part_32 : decode cX7_part 32 = .ok (.getfield 10, 3) := by decide +kernel
theorem dX7_part_35 : decode cX7_part 35 = .ok (.iload_n 1, 1) := by decide +kernel
theorem dX7_part_36 : decode cX7_part 36 = .ok (.iload_n 2, 1) := by decide +kernel
theorem dX7_part_37 : decode cX7_part 37 = .ok (.iload_n 3, 1) := by decide +kernel
theorem dX7_part_38 : decode cX7_part 38 = .ok (.invokevirtual 67, 3) := by decide +kernel
theorem dX7_part_41 : decode cX7_part 41 = .ok (.ireturn, 1) := by decide +kernel
theorem dX7_takeAway_0 : decode cX7_takeAway 0 = .ok (.aload_n 0, 1) := by decide +kernel
theorem dX7_takeAway_1 : decode cX7_takeAway 1 = .ok (.getfield 10, 3) := by decide +kernel
theorem dX7_takeAway_4 : decode cX7_takeAway 4 = .ok (.getfield 70, 3) := by decide +kernel
theorem dX7_takeAway_7 : decode cX7_takeAway 7 = .ok (.iload_n 1, 1) := by decide +kernel
theorem dX7_takeAway_8 : decode cX7_takeAway 8 = .ok (.invokevirtual 74, 3) := by decide +kernel
theorem dX7_takeAway_11 : decode cX7_takeAway 11 = .ok (.ifCond .ne 5, 3) := by decide +kernel
theorem dX7_takeAway_14 : decode cX7_takeAway 14 = .ok (.iconst (-1), 1) := by decide +kernel
theorem dX7_takeAway_15 : decode cX7_takeAway 15 = .ok (.ireturn, 1) := by decide +kernel
theorem dX7_takeAway_16 : decode cX7_takeAway 16 = .ok (.aload_n 0, 1) := by decide +kernel
theorem dX7_takeAway_17 : decode cX7_takeAway 17 = .ok (.getfield 19, 3) := by decide +kernel
theorem dX7_takeAway_20 : decode cX7_takeAway 20 = .ok (.aload_n 0, 1) := by decide +kernel
theorem dX7_takeAway_21 : decode cX7_takeAway 21 = .ok (.getfield 10, 3) := by decide +kernel
theorem dX7_takeAway_24 : decode cX7_takeAway 24 = .ok (.invokevirtual 55, 3) := by decide +kernel
theorem dX7_takeAway_27 : decode cX7_takeAway 27 = .ok (.aload_n 0, 1) := by decide +kernel
theorem dX7_takeAway_28 : decode cX7_takeAway 28 = .ok (.getfield 10, 3) := by decide +kernel
theorem dX7_takeAway_31 : decode cX7_takeAway 31 = .ok (.iload_n 1, 1) := by decide +kernel
theorem dX7_takeAway_32 : decode cX7_takeAway 32 = .ok (.invokevirtual 80, 3) := by decide +kernel
theorem dX7_takeAway_35 : decode cX7_takeAway 35 = .ok (.ireturn, 1) := by decide +kernel
theorem dX7_hoop_0 : decode cX7_hoop 0 = .ok (.iload_n 1, 1) := by decide +kernel
theorem dX7_hoop_1 : decode cX7_hoop 1 = .ok (.invokestatic 84, 3) := by decide +kernel
theorem dX7_hoop_4 : decode cX7_hoop 4 = .ok (.ifCond .ne 6, 3) := by decide +kernel
theorem dX7_hoop_7 : decode cX7_hoop 7 = .ok (.bipush (-2), 2) := by decide +kernel
theorem dX7_hoop_9 : decode cX7_hoop 9 = .ok (.ireturn, 1) := by decide +kernel
theorem dX7_hoop_10 : decode cX7_hoop 10 = .ok (.aload_n 0, 1) := by decide +kernel
theorem dX7_hoop_11 : decode cX7_hoop 11 = .ok (.getfield 19, 3) := by decide +kernel
theorem dX7_hoop_14 : decode cX7_hoop 14 = .ok (.aload_n 0, 1) := by decide +kernel
theorem dX7_hoop_15 : decode cX7_hoop 15 = .ok (.getfield 10, 3) := by decide +kernel
theorem dX7_hoop_18 : decode cX7_hoop 18 = .ok (.invokevirtual 55, 3) := by decide +kernel
theorem dX7_hoop_21 : decode cX7_hoop 21 = .ok (.aload_n 0, 1) := by decide +kernel
theorem dX7_hoop_22 : decode cX7_hoop 22 = .ok (.getfield 10, 3) := by decide +kernel
theorem dX7_hoop_25 : decode cX7_hoop 25 = .ok (.iload_n 1, 1) := by decide +kernel
theorem dX7_hoop_26 : decode cX7_hoop 26 = .ok (.invokevirtual 86, 3) := by decide +kernel
theorem dX7_hoop_29 : decode cX7_hoop 29 = .ok (.ireturn, 1) := by decide +kernel
theorem dX7_roll_0 : decode cX7_roll 0 = .ok (.aload_n 0, 1) := by decide +kernel
theorem dX7_roll_1 : decode cX7_roll 1 = .ok (.getfield 10, 3) := by decide +kernel
theorem dX7_roll_4 : decode cX7_roll 4 = .ok (.iload_n 1, 1) := by decide +kernel
theorem dX7_roll_5 : decode cX7_roll 5 = .ok (.invokevirtual 89, 3) := by decide +kernel
theorem dX7_roll_8 : decode cX7_roll 8 = .ok (.istore_n 2, 1) := by decide +kernel
theorem dX7_roll_9 : decode cX7_roll 9 = .ok (.iload_n 2, 1) := by decide +kernel
theorem dX7_roll_10 : decode cX7_roll 10 = .ok (.ifCond .eq 5, 3) := by decide +kernel
theorem dX7_roll_13 : decode cX7_roll 13 = .ok (.iload_n 2, 1) := by decide +kernel
theorem dX7_roll_14 : decode cX7_roll 14 = .ok (.ireturn, 1) := by decide +kernel
theorem dX7_roll_15 : decode cX7_roll 15 = .ok (.aload_n 0, 1) := by decide +kernel
theorem dX7_roll_16 : decode cX7_roll 16 = .ok (.getfield 19, 3) := by decide +kernel
theorem dX7_roll_19 : decode cX7_roll 19 = .ok (.aload_n 0, 1) := by decide +kernel
theorem dX7_roll_20 : decode cX7_roll 20 = .ok (.getfield 10, 3) := by decide +kernel
theorem dX7_roll_23 : decode cX7_roll 23 = .ok (.invokevirtual 55, 3) := by decide +kernel
theorem dX7_roll_26 : decode cX7_roll 26 = .ok (.aload_n 0, 1) := by decide +kernel
theorem dX7_roll_27 : decode cX7_roll 27 = .ok (.getfield 10, 3) := by decide +kernel
theorem dX7_roll_30 : decode cX7_roll 30 = .ok (.iload_n 1, 1) := by decide +kernel
theorem dX7_roll_31 : decode cX7_roll 31 = .ok (.invokevirtual 92, 3) := by decide +kernel
theorem dX7_roll_34 : decode cX7_roll 34 = .ok (.ireturn, 1) := by decide +kernel
theorem dX7_tap_0 : decode cX7_tap 0 = .ok (.aload_n 0, 1) := by decide +kernel
theorem dX7_tap_1 : decode cX7_tap 1 = .ok (.getfield 10, 3) := by decide +kernel
theorem dX7_tap_4 : decode cX7_tap 4 = .ok (.iload_n 1, 1) := by decide +kernel
theorem dX7_tap_5 : decode cX7_tap 5 = .ok (.invokevirtual 95, 3) := by decide +kernel
theorem dX7_tap_8 : decode cX7_tap 8 = .ok (.istore_n 2, 1) := by decide +kernel
theorem dX7_tap_9 : decode cX7_tap 9 = .ok (.iload_n 2, 1) := by decide +kernel
theorem dX7_tap_10 : decode cX7_tap 10 = .ok (.ifCond .eq 5, 3) := by decide +kernel
end
section
/-! decode rows -/
theorem dX7_tap_13 : decode cX7_tap 13 = .ok (.iload_n 2, 1) := by decide +kernel
theorem dX7_tap_14 : decode cX7_tap 14 = .ok (.ireturn, 1) := by decide +kernel
theorem dX7_tap_15 : decode cX7_tap 15 = .ok (.aload_n 0, 1) := by decide +kernel
theorem dX7_tap_16 : decode cX7_tap 16 = .ok (.getfield 19, 3) := by decide +kernel
theorem dX7_tap_19 : decode cX7_tap 19 = .ok (.aload_n 0, 1) := by decide +kernel
theorem dX7_tap_20 : decode cX7_tap 20 = .ok (.getfield 10, 3) := by decide +kernel
theorem dX7_tap_23 : decode cX7_tap 23 = .ok (.invokevirtual 55, 3) := by decide +kernel
theorem dX7_tap_26 : decode cX7_tap 26 = .ok (.aload_n 0, 1) := by decide +kernel
theorem dX7_tap_27 : decode cX7_tap 27 = .ok (.getfield 10, 3) := by decide +kernel
theorem dX7_tap_30 : decode cX7_tap 30 = .ok (.iload_n 1, 1) := by decide +kernel
theorem dX7_tap_31 : decode cX7_tap 31 = .ok (.invokevirtual 98, 3) := by decide +kernel
theorem dX7_tap_34 : decode cX7_tap 34 = .ok (.ireturn, 1) := by decide +kernel
theorem dX7_push_0 : decode cX7_push 0 = .ok (.aload_n 0, 1) := by decide +kernel
theorem dX7_push_1 : decode cX7_push 1 = .ok (.getfield 10, 3) := by decide +kernel
theorem dX7_push_4 : decode cX7_push 4 = .ok (.invokevirtual 101, 3) := by decide +kernel
theorem dX7_push_7 : decode cX7_push 7 = .ok (.istore_n 1, 1) := by decide +kernel
theorem dX7_push_8 : decode cX7_push 8 = .ok (.iload_n 1, 1) := by decide +kernel
theorem dX7_push_9 : decode cX7_push 9 = .ok (.ifCond .eq 5, 3) := by decide +kernel
theorem dX7_push_12 : decode cX7_push 12 = .ok (.iload_n 1, 1) := by decide +kernel
theorem dX7_push_13 : decode cX7_push 13 = .ok (.ireturn, 1) := by decide +kernel
theorem dX7_push_14 : decode cX7_push 14 = .ok (.aload_n 0, 1) := by decide +kernel
theorem dX7_push_15 : decode cX7_push 15 = .ok (.getfield 19, 3) := by decide +kernel
theorem dX7_push_18 : decode cX7_push 18 = .ok (.aload_n 0, 1) := by decide +kernel
theorem dX7_push_19 : decode cX7_push 19 = .ok (.getfield 10, 3) := by decide +kernel
theorem dX7_push_22 : decode cX7_push 22 = .ok (.invokevirtual 55, 3) := by decide +kernel
theorem dX7_push_25 : decode cX7_push 25 = .ok (.aload_n 0, 1) := by decide +kernel
theorem dX7_push_26 : decode cX7_push 26 = .ok (.getfield 10, 3) := by decide +kernel
theorem dX7_push_29 : decode cX7_push 29 = .ok (.invokevirtual 105, 3) := by decide +kernel
theorem dX7_push_32 : decode cX7_push 32 = .ok (.ireturn, 1) := by decide +kernel
theorem dX7_of_0 : decode cX7_of 0 = .ok (.aload_n 0, 1) := by decide +kernel
theorem dX7_of_1 : decode cX7_of 1 = .ok (.getfield 10, 3) := by decide +kernel
theorem dX7_of_4 : decode cX7_of 4 = .ok (.getfield 70, 3) := by decide +kernel
theorem dX7_of_7 : decode cX7_of 7 = .ok (.iload_n 1, 1) := by decide +kernel
theorem dX7_of_8 : decode cX7_of 8 = .ok (.invokevirtual 74, 3) := by decide +kernel
theorem dX7_of_11 : decode cX7_of 11 = .ok (.ifCond .ne 5, 3) := by decide +kernel
theorem dX7_of_14 : decode cX7_of 14 = .ok (.iconst (-1), 1) := by decide +kernel
theorem dX7_of_15 : decode cX7_of 15 = .ok (.ireturn, 1) := by decide +kernel
theorem dX7_of_16 : decode cX7_of 16 = .ok (.iload_n 2, 1) := by decide +kernel
theorem dX7_of_17 : decode cX7_of 17 = .ok (.ifCond .lt 8, 3) := by decide +kernel
theorem dX7_of_20 : decode cX7_of 20 = .ok (.iload_n 2, 1) := by decide +kernel
theorem dX7_of_21 : decode cX7_of 21 = .ok (.iconst 5, 1) := by decide +kernel
theorem dX7_of_22 : decode cX7_of 22 = .ok (.if_icmp .lt 6, 3) := by decide +kernel
theorem dX7_of_25 : decode cX7_of 25 = .ok (.bipush (-2), 2) := by decide +kernel
theorem dX7_of_27 : decode cX7_of 27 = .ok (.ireturn, 1) := by decide +kernel
theorem dX7_of_28 : decode cX7_of 28 = .ok (.aload_n 0, 1) := by decide +kernel
theorem dX7_of_29 : decode cX7_of 29 = .ok (.getfield 10, 3) := by decide +kernel
theorem dX7_of_32 : decode cX7_of 32 = .ok (.getfield 70, 3) := by decide +kernel
theorem dX7_of_35 : decode cX7_of 35 = .ok (.iload_n 1, 1) := by decide +kernel
theorem dX7_of_36 : decode cX7_of 36 = .ok (.iload_n 2, 1) := by decide +kernel
theorem dX7_of_37 : decode cX7_of 37 = .ok (.invokevirtual 108, 3) := by decide +kernel
theorem dX7_of_40 : decode cX7_of 40 = .ok (.ireturn, 1) := by decide +kernel
theorem dX7_ofHoop_0 : decode cX7_ofHoop 0 = .ok (.iload_n 1, 1) := by decide +kernel
theorem dX7_ofHoop_1 : decode cX7_ofHoop 1 = .ok (.ifCond .lt 9, 3) := by decide +kernel
theorem dX7_ofHoop_4 : decode cX7_ofHoop 4 = .ok (.iload_n 1, 1) := by decide +kernel
theorem dX7_ofHoop_5 : decode cX7_ofHoop 5 = .ok (.bipush 7, 2) := by decide +kernel
theorem dX7_ofHoop_7 : decode cX7_ofHoop 7 = .ok (.if_icmp .le 6, 3) := by decide +kernel
theorem dX7_ofHoop_10 : decode cX7_ofHoop 10 = .ok (.bipush (-2), 2) := by decide +kernel
theorem dX7_ofHoop_12 : decode cX7_ofHoop 12 = .ok (.ireturn, 1) := by decide +kernel
theorem dX7_ofHoop_13 : decode cX7_ofHoop 13 = .ok (.aload_n 0, 1) := by decide +kernel
theorem dX7_ofHoop_14 : decode cX7_ofHoop 14 = .ok (.getfield 10, 3) := by decide +kernel
theorem dX7_ofHoop_17 : decode cX7_ofHoop 17 = .ok (.getfield 111, 3) := by decide +kernel
theorem dX7_ofHoop_20 : decode cX7_ofHoop 20 = .ok (.getfield 114, 3) := by decide +kernel
theorem dX7_ofHoop_23 : decode cX7_ofHoop 23 = .ok (.ifCond .ne 6, 3) := by decide +kernel
theorem dX7_ofHoop_26 : decode cX7_ofHoop 26 = .ok (.bipush (-6), 2) := by decide +kernel
theorem dX7_ofHoop_28 : decode cX7_ofHoop 28 = .ok (.ireturn, 1) := by decide +kernel
theorem dX7_ofHoop_29 : decode cX7_ofHoop 29 = .ok (.aload_n 0, 1) := by decide +kernel
theorem dX7_ofHoop_30 : decode cX7_ofHoop 30 = .ok (.getfield 10, 3) := by decide +kernel
theorem dX7_ofHoop_33 : decode cX7_ofHoop 33 = .ok (.getfield 111, 3) := by decide +kernel
theorem dX7_ofHoop_36 : decode cX7_ofHoop 36 = .ok (.iload_n 1, 1) := by decide +kernel
theorem dX7_ofHoop_37 : decode cX7_ofHoop 37 = .ok (.invokestatic 118, 3) := by decide +kernel
theorem dX7_ofHoop_40 : decode cX7_ofHoop 40 = .ok (.ireturn, 1) := by decide +kernel
theorem dX7_run_0 : decode cX7_run 0 = .ok (.aload_n 0, 1) := by decide +kernel
theorem dX7_run_1 : decode cX7_run 1 = .ok (.getfield 10, 3) := by decide +kernel
theorem dX7_run_4 : decode cX7_run 4 = .ok (.getfield 122, 3) := by decide +kernel
theorem dX7_run_7 : decode cX7_run 7 = .ok (.iload_n 1, 1) := by decide +kernel
theorem dX7_run_8 : decode cX7_run 8 = .ok (.invokevirtual 126, 3) := by decide +kernel
theorem dX7_run_11 : decode cX7_run 11 = .ok (.ifCond .ne 5, 3) := by decide +kernel
theorem dX7_run_14 : decode cX7_run 14 = .ok (.iconst (-1), 1) := by decide +kernel
theorem dX7_run_15 : decode cX7_run 15 = .ok (.ireturn, 1) := by decide +kernel
theorem dX7_run_16 : decode cX7_run 16 = .ok (.iload_n 2, 1) := by decide +kernel
theorem dX7_run_17 : decode cX7_run 17 = .ok (.ifCond .lt 8, 3) := by decide +kernel
theorem dX7_run_20 : decode cX7_run 20 = .ok (.iload_n 2, 1) := by decide +kernel
theorem dX7_run_21 : decode cX7_run 21 = .ok (.iconst 4, 1) := by decide +kernel
theorem dX7_run_22 : decode cX7_run 22 = .ok (.if_icmp .lt 6, 3) := by decide +kernel
theorem dX7_run_25 : decode cX7_run 25 = .ok (.bipush (-2), 2) := by decide +kernel
theorem dX7_run_27 : decode cX7_run 27 = .ok (.ireturn, 1) := by decide +kernel
theorem dX7_run_28 : decode cX7_run 28 = .ok (.aload_n 0, 1) := by decide +kernel
theorem dX7_run_29 : decode cX7_run 29 = .ok (.getfield 10, 3) := by decide +kernel
theorem dX7_run_32 : decode cX7_run 32 = .ok (.getfield 122, 3) := by decide +kernel
theorem dX7_run_35 : decode cX7_run 35 = .ok (.iload_n 1, 1) := by decide +kernel
theorem dX7_run_36 : decode cX7_run 36 = .ok (.iload_n 2, 1) := by decide +kernel
theorem dX7_run_37 : decode cX7_run 37 = .ok (.invokevirtual 129, 3) := by decide +kernel
theorem dX7_run_40 : decode cX7_run 40 = .ok (.ireturn, 1) := by decide +kernel
theorem dX7_count_0 : decode cX7_count 0 = .ok (.iload_n 1, 1) := by decide +kernel
theorem dX7_count_1 : decode cX7_count 1 = .ok (.ifCond .lt 9, 3) := by decide +kernel
theorem dX7_count_4 : decode cX7_count 4 = .ok (.iload_n 1, 1) := by decide +kernel
theorem dX7_count_5 : decode cX7_count 5 = .ok (.bipush 15, 2) := by decide +kernel
theorem dX7_count_7 : decode cX7_count 7 = .ok (.if_icmp .le 6, 3) := by decide +kernel
theorem dX7_count_10 : decode cX7_count 10 = .ok (.bipush (-2), 2) := by decide +kernel
theorem dX7_count_12 : decode cX7_count 12 = .ok (.ireturn, 1) := by decide +kernel
theorem dX7_count_13 : decode cX7_count 13 = .ok (.iload_n 1, 1) := by decide +kernel
theorem dX7_count_14 : decode cX7_count 14 = .ok (.bipush 14, 2) := by decide +kernel
theorem dX7_count_16 : decode cX7_count 16 = .ok (.if_icmp .ne 11, 3) := by decide +kernel
theorem dX7_count_19 : decode cX7_count 19 = .ok (.aload_n 0, 1) := by decide +kernel
theorem dX7_count_20 : decode cX7_count 20 = .ok (.getfield 34, 3) := by decide +kernel
theorem dX7_count_23 : decode cX7_count 23 = .ok (.getfield 130, 3) := by decide +kernel
theorem dX7_count_26 : decode cX7_count 26 = .ok (.ireturn, 1) := by decide +kernel
theorem dX7_count_27 : decode cX7_count 27 = .ok (.iload_n 1, 1) := by decide +kernel
theorem dX7_count_28 : decode cX7_count 28 = .ok (.bipush 15, 2) := by decide +kernel
theorem dX7_count_30 : decode cX7_count 30 = .ok (.if_icmp .ne 11, 3) := by decide +kernel
theorem dX7_count_33 : decode cX7_count 33 = .ok (.aload_n 0, 1) := by decide +kernel
theorem dX7_count_34 : decode cX7_count 34 = .ok (.getfield 19, 3) := by decide +kernel
theorem dX7_count_37 : decode cX7_count 37 = .ok (.getfield 134, 3) := by decide +kernel
theorem dX7_count_40 : decode cX7_count 40 = .ok (.ireturn, 1) := by decide +kernel
theorem dX7_count_41 : decode cX7_count 41 = .ok (.iload_n 1, 1) := by decide +kernel
theorem dX7_count_42 : decode cX7_count 42 = .ok (.bipush 10, 2) := by decide +kernel
theorem dX7_count_44 : decode cX7_count 44 = .ok (.if_icmp .lt 18, 3) := by decide +kernel
theorem dX7_count_47 : decode cX7_count 47 = .ok (.aload_n 0, 1) := by decide +kernel
theorem dX7_count_48 : decode cX7_count 48 = .ok (.getfield 10, 3) := by decide +kernel
theorem dX7_count_51 : decode cX7_count 51 = .ok (.getfield 45, 3) := by decide +kernel
theorem dX7_count_54 : decode cX7_count 54 = .ok (.iload_n 1, 1) := by decide +kernel
theorem dX7_count_55 : decode cX7_count 55 = .ok (.bipush 10, 2) := by decide +kernel
theorem dX7_count_57 : decode cX7_count 57 = .ok (.isub, 1) := by decide +kernel
theorem dX7_count_58 : decode cX7_count 58 = .ok (.invokevirtual 135, 3) := by decide +kernel
theorem dX7_count_61 : decode cX7_count 61 = .ok (.ireturn, 1) := by decide +kernel
theorem dX7_count_62 : decode cX7_count 62 = .ok (.aload_n 0, 1) := by decide +kernel
theorem dX7_count_63 : decode cX7_count 63 = .ok (.getfield 10, 3) := by decide +kernel
theorem dX7_count_66 : decode cX7_count 66 = .ok (.iload_n 1, 1) := by decide +kernel
theorem dX7_count_67 : decode cX7_count 67 = .ok (.invokevirtual 138, 3) := by decide +kernel
theorem dX7_count_70 : decode cX7_count 70 = .ok (.ireturn, 1) := by decide +kernel
theorem dX7_aboutHoop_0 : decode cX7_aboutHoop 0 = .ok (.iload_n 1, 1) := by decide +kernel
theorem dX7_aboutHoop_1 : decode cX7_aboutHoop 1 = .ok (.tableswitch 82 0 6 #[43, 48, 53, 62, 67, 72, 77], 43) := by decide +kernel
theorem dX7_aboutHoop_44 : decode cX7_aboutHoop 44 = .ok (.aload_n 0, 1) := by decide +kernel
theorem dX7_aboutHoop_45 : decode cX7_aboutHoop 45 = .ok (.getfield 141, 3) := by decide +kernel
theorem dX7_aboutHoop_48 : decode cX7_aboutHoop 48 = .ok (.ireturn, 1) := by decide +kernel
theorem dX7_aboutHoop_49 : decode cX7_aboutHoop 49 = .ok (.aload_n 0, 1) := by decide +kernel
theorem dX7_aboutHoop_50 : decode cX7_aboutHoop 50 = .ok (.getfield 144, 3) := by decide +kernel
theorem dX7_aboutHoop_53 : decode cX7_aboutHoop 53 = .ok (.ireturn, 1) := by decide +kernel
theorem dX7_aboutHoop_54 : decode cX7_aboutHoop 54 = .ok (.aload_n 0, 1) := by decide +kernel
theorem dX7_aboutHoop_55 : decode cX7_aboutHoop 55 = .ok (.getfield 147, 3) := by decide +kernel
theorem dX7_aboutHoop_58 : decode cX7_aboutHoop 58 = .ok (.sipush 500, 3) := by decide +kernel
theorem dX7_aboutHoop_61 : decode cX7_aboutHoop 61 = .ok (.iadd, 1) := by decide +kernel
theorem dX7_aboutHoop_62 : decode cX7_aboutHoop 62 = .ok (.ireturn, 1) := by decide +kernel
theorem dX7_aboutHoop_63 : decode cX7_aboutHoop 63 = .ok (.aload_n 0, 1) := by decide +kernel
theorem dX7_aboutHoop_64 : decode cX7_aboutHoop 64 = .ok (.getfield 150, 3) := by decide +kernel
theorem dX7_aboutHoop_67 : decode cX7_aboutHoop 67 = .ok (.ireturn, 1) := by decide +kernel
theorem dX7_aboutHoop_68 : decode cX7_aboutHoop 68 = .ok (.aload_n 0, 1) := by decide +kernel
theorem dX7_aboutHoop_69 : decode cX7_aboutHoop 69 = .ok (.getfield 153, 3) := by decide +kernel
theorem dX7_aboutHoop_72 : decode cX7_aboutHoop 72 = .ok (.ireturn, 1) := by decide +kernel
theorem dX7_aboutHoop_73 : decode cX7_aboutHoop 73 = .ok (.aload_n 0, 1) := by decide +kernel
theorem dX7_aboutHoop_74 : decode cX7_aboutHoop 74 = .ok (.getfield 156, 3) := by decide +kernel
theorem dX7_aboutHoop_77 : decode cX7_aboutHoop 77 = .ok (.ireturn, 1) := by decide +kernel
theorem dX7_aboutHoop_78 : decode cX7_aboutHoop 78 = .ok (.aload_n 0, 1) := by decide +kernel
theorem dX7_aboutHoop_79 : decode cX7_aboutHoop 79 = .ok (.getfield 159, 3) := by decide +kernel
theorem dX7_aboutHoop_82 : decode cX7_aboutHoop 82 = .ok (.ireturn, 1) := by decide +kernel
theorem dX7_aboutHoop_83 : decode cX7_aboutHoop 83 = .ok (.aload_n 0, 1) := by decide +kernel
theorem dX7_aboutHoop_84 : decode cX7_aboutHoop 84 = .ok (.getfield 162, 3) := by decide +kernel
theorem dX7_aboutHoop_87 : decode cX7_aboutHoop 87 = .ok (.ireturn, 1) := by decide +kernel
theorem dX7_ifRolled_0 : decode cX7_ifRolled 0 = .ok (.iload_n 1, 1) := by decide +kernel
theorem dX7_ifRolled_1 : decode cX7_ifRolled 1 = .ok (.ifCond .lt 8, 3) := by decide +kernel
theorem dX7_ifRolled_4 : decode cX7_ifRolled 4 = .ok (.iload_n 1, 1) := by decide +kernel
theorem dX7_ifRolled_5 : decode cX7_ifRolled 5 = .ok (.iconst 3, 1) := by decide +kernel
theorem dX7_ifRolled_6 : decode cX7_ifRolled 6 = .ok (.if_icmp .le 6, 3) := by decide +kernel
theorem dX7_ifRolled_9 : decode cX7_ifRolled 9 = .ok (.bipush (-2), 2) := by decide +kernel
theorem dX7_ifRolled_11 : decode cX7_ifRolled 11 = .ok (.ireturn, 1) := by decide +kernel
theorem dX7_ifRolled_12 : decode cX7_ifRolled 12 = .ok (.aload_n 0, 1) := by decide +kernel
theorem dX7_ifRolled_13 : decode cX7_ifRolled 13 = .ok (.getfield 10, 3) := by decide +kernel
theorem dX7_ifRolled_16 : decode cX7_ifRolled 16 = .ok (.getfield 111, 3) := by decide +kernel
theorem dX7_ifRolled_19 : decode cX7_ifRolled 19 = .ok (.invokevirtual 165, 3) := by decide +kernel
theorem dX7_ifRolled_22 : decode cX7_ifRolled 22 = .ok (.ifCond .ne 6, 3) := by decide +kernel
theorem dX7_ifRolled_25 : decode cX7_ifRolled 25 = .ok (.bipush (-5), 2) := by decide +kernel
theorem dX7_ifRolled_27 : decode cX7_ifRolled 27 = .ok (.ireturn, 1) := by decide +kernel
theorem dX7_ifRolled_28 : decode cX7_ifRolled 28 = .ok (.aload_n 0, 1) := by decide +kernel
theorem dX7_ifRolled_29 : decode cX7_ifRolled 29 = .ok (.getfield 41, 3) := by decide +kernel
theorem dX7_ifRolled_32 : decode cX7_ifRolled 32 = .ok (.aload_n 0, 1) := by decide +kernel
theorem dX7_ifRolled_33 : decode cX7_ifRolled 33 = .ok (.getfield 10, 3) := by decide +kernel
theorem dX7_ifRolled_36 : decode cX7_ifRolled 36 = .ok (.getfield 111, 3) := by decide +kernel
theorem dX7_ifRolled_39 : decode cX7_ifRolled 39 = .ok (.invokevirtual 169, 3) := by decide +kernel
theorem dX7_ifRolled_42 : decode cX7_ifRolled 42 = .ok (.aload_n 0, 1) := by decide +kernel
theorem dX7_ifRolled_43 : decode cX7_ifRolled 43 = .ok (.getfield 41, 3) := by decide +kernel
theorem dX7_ifRolled_46 : decode cX7_ifRolled 46 = .ok (.iconst 0, 1) := by decide +kernel
theorem dX7_ifRolled_47 : decode cX7_ifRolled 47 = .ok (.putfield 173, 3) := by decide +kernel
theorem dX7_ifRolled_50 : decode cX7_ifRolled 50 = .ok (.aload_n 0, 1) := by decide +kernel
theorem dX7_ifRolled_51 : decode cX7_ifRolled 51 = .ok (.getfield 41, 3) := by decide +kernel
theorem dX7_ifRolled_54 : decode cX7_ifRolled 54 = .ok (.bipush 20, 2) := by decide +kernel
theorem dX7_ifRolled_56 : decode cX7_ifRolled 56 = .ok (.aload_n 0, 1) := by decide +kernel
theorem dX7_ifRolled_57 : decode cX7_ifRolled 57 = .ok (.getfield 10, 3) := by decide +kernel
theorem dX7_ifRolled_60 : decode cX7_ifRolled 60 = .ok (.getfield 70, 3) := by decide +kernel
theorem dX7_ifRolled_63 : decode cX7_ifRolled 63 = .ok (.aload_n 0, 1) := by decide +kernel
theorem dX7_ifRolled_64 : decode cX7_ifRolled 64 = .ok (.getfield 10, 3) := by decide +kernel
theorem dX7_ifRolled_67 : decode cX7_ifRolled 67 = .ok (.getfield 45, 3) := by decide +kernel
theorem dX7_ifRolled_70 : decode cX7_ifRolled 70 = .ok (.invokevirtual 176, 3) := by decide +kernel
theorem dX7_ifRolled_73 : decode cX7_ifRolled 73 = .ok (.iload_n 1, 1) := by decide +kernel
theorem dX7_ifRolled_74 : decode cX7_ifRolled 74 = .ok (.tableswitch 50 0 2 #[26, 34, 42], 26) := by decide +kernel
theorem dX7_ifRolled_100 : decode cX7_ifRolled 100 = .ok (.aload_n 0, 1) := by decide +kernel
theorem dX7_ifRolled_101 : decode cX7_ifRolled 101 = .ok (.getfield 41, 3) := by decide +kernel
theorem dX7_ifRolled_104 : decode cX7_ifRolled 104 = .ok (.getfield 156, 3) := by decide +kernel
theorem dX7_ifRolled_107 : decode cX7_ifRolled 107 = .ok (.ireturn, 1) := by decide +kernel
theorem dX7_ifRolled_108 : decode cX7_ifRolled 108 = .ok (.aload_n 0, 1) := by decide +kernel
theorem dX7_ifRolled_109 : decode cX7_ifRolled 109 = .ok (.getfield 41, 3) := by decide +kernel
theorem dX7_ifRolled_112 : decode cX7_ifRolled 112 = .ok (.getfield 153, 3) := by decide +kernel
theorem dX7_ifRolled_115 : decode cX7_ifRolled 115 = .ok (.ireturn, 1) := by decide +kernel
theorem dX7_ifRolled_116 : decode cX7_ifRolled 116 = .ok (.aload_n 0, 1) := by decide +kernel
theorem dX7_ifRolled_117 : decode cX7_ifRolled 117 = .ok (.getfield 41, 3) := by decide +kernel
theorem dX7_ifRolled_120 : decode cX7_ifRolled 120 = .ok (.getfield 144, 3) := by decide +kernel
theorem dX7_ifRolled_123 : decode cX7_ifRolled 123 = .ok (.ireturn, 1) := by decide +kernel
theorem dX7_ifRolled_124 : decode cX7_ifRolled 124 = .ok (.aload_n 0, 1) := by decide +kernel
theorem dX7_ifRolled_125 : decode cX7_ifRolled 125 = .ok (.getfield 41, 3) := by decide +kernel
theorem dX7_ifRolled_128 : decode cX7_ifRolled 128 = .ok (.getfield 173, 3) := by decide +kernel
theorem dX7_ifRolled_131 : decode cX7_ifRolled 131 = .ok (.ireturn, 1) := by decide +kernel
theorem dX7_widest_0 : decode cX7_widest 0 = .ok (.bipush 60, 2) := by decide +kernel
theorem dX7_widest_2 : decode cX7_widest 2 = .ok (.istore_n 1, 1) := by decide +kernel
theorem dX7_widest_3 : decode cX7_widest 3 = .ok (.iload_n 1, 1) := by decide +kernel
theorem dX7_widest_4 : decode cX7_widest 4 = .ok (.iconst 1, 1) := by decide +kernel
theorem dX7_widest_5 : decode cX7_widest 5 = .ok (.if_icmp .lt 53, 3) := by decide +kernel
theorem dX7_widest_8 : decode cX7_widest 8 = .ok (.aload_n 0, 1) := by decide +kernel
theorem dX7_widest_9 : decode cX7_widest 9 = .ok (.getfield 41, 3) := by decide +kernel
theorem dX7_widest_12 : decode cX7_widest 12 = .ok (.iload_n 1, 1) := by decide +kernel
theorem dX7_widest_13 : decode cX7_widest 13 = .ok (.invokevirtual 179, 3) := by decide +kernel
theorem dX7_widest_16 : decode cX7_widest 16 = .ok (.aload_n 0, 1) := by decide +kernel
theorem dX7_widest_17 : decode cX7_widest 17 = .ok (.getfield 41, 3) := by decide +kernel
theorem dX7_widest_20 : decode cX7_widest 20 = .ok (.bipush 20, 2) := by decide +kernel
theorem dX7_widest_22 : decode cX7_widest 22 = .ok (.aload_n 0, 1) := by decide +kernel
theorem dX7_widest_23 : decode cX7_widest 23 = .ok (.getfield 10, 3) := by decide +kernel
theorem dX7_widest_26 : decode cX7_widest 26 = .ok (.getfield 70, 3) := by decide +kernel
theorem dX7_widest_29 : decode cX7_widest 29 = .ok (.aload_n 0, 1) := by decide +kernel
theorem dX7_widest_30 : decode cX7_widest 30 = .ok (.getfield 10, 3) := by decide +kernel
theorem dX7_widest_33 : decode cX7_widest 33 = .ok (.getfield 45, 3) := by decide +kernel
theorem dX7_widest_36 : decode cX7_widest 36 = .ok (.invokevirtual 176, 3) := by decide +kernel
theorem dX7_widest_39 : decode cX7_widest 39 = .ok (.aload_n 0, 1) := by decide +kernel
theorem dX7_widest_40 : decode cX7_widest 40 = .ok (.getfield 41, 3) := by decide +kernel
theorem dX7_widest_43 : decode cX7_widest 43 = .ok (.getfield 156, 3) := by decide +kernel
theorem dX7_widest_46 : decode cX7_widest 46 = .ok (.iconst 4, 1) := by decide +kernel
theorem dX7_widest_47 : decode cX7_widest 47 = .ok (.if_icmp .ne 5, 3) := by decide +kernel
theorem dX7_widest_50 : decode cX7_widest 50 = .ok (.iload_n 1, 1) := by decide +kernel
theorem dX7_widest_51 : decode cX7_widest 51 = .ok (.ireturn, 1) := by decide +kernel
theorem dX7_widest_52 : decode cX7_widest 52 = .ok (.iinc 1 (-1), 3) := by decide +kernel
theorem dX7_widest_55 : decode cX7_widest 55 = .ok (.goto (-52), 3) := by decide +kernel
theorem dX7_widest_58 : decode cX7_widest 58 = .ok (.bipush (-6), 2) := by decide +kernel
theorem dX7_widest_60 : decode cX7_widest 60 = .ok (.ireturn, 1) := by decide +kernel
theorem dX7_saves_0 : decode cX7_saves 0 = .ok (.aload_n 0, 1) := by decide +kernel
theorem dX7_saves_1 : decode cX7_saves 1 = .ok (.getfield 10, 3) := by decide +kernel
theorem dX7_saves_4 : decode cX7_saves 4 = .ok (.iload_n 1, 1) := by decide +kernel
theorem dX7_saves_5 : decode cX7_saves 5 = .ok (.invokevirtual 95, 3) := by decide +kernel
theorem dX7_saves_8 : decode cX7_saves 8 = .ok (.istore_n 2, 1) := by decide +kernel
theorem dX7_saves_9 : decode cX7_saves 9 = .ok (.iload_n 2, 1) := by decide +kernel
theorem dX7_saves_10 : decode cX7_saves 10 = .ok (.ifCond .eq 5, 3) := by decide +kernel
theorem dX7_saves_13 : decode cX7_saves 13 = .ok (.iload_n 2, 1) := by decide +kernel
theorem dX7_saves_14 : decode cX7_saves 14 = .ok (.ireturn, 1) := by decide +kernel
theorem dX7_saves_15 : decode cX7_saves 15 = .ok (.iconst 0, 1) := by decide +kernel
theorem dX7_saves_16 : decode cX7_saves 16 = .ok (.istore_n 3, 1) := by decide +kernel
theorem dX7_saves_17 : decode cX7_saves 17 = .ok (.iload_n 3, 1) := by decide +kernel
theorem dX7_saves_18 : decode cX7_saves 18 = .ok (.bipush 20, 2) := by decide +kernel
theorem dX7_saves_20 : decode cX7_saves 20 = .ok (.if_icmp .gt 20, 3) := by decide +kernel
theorem dX7_saves_23 : decode cX7_saves 23 = .ok (.aload_n 0, 1) := by decide +kernel
theorem dX7_saves_24 : decode cX7_saves 24 = .ok (.iload_n 3, 1) := by decide +kernel
theorem dX7_saves_25 : decode cX7_saves 25 = .ok (.iload_n 1, 1) := by decide +kernel
theorem dX7_saves_26 : decode cX7_saves 26 = .ok (.invokevirtual 183, 3) := by decide +kernel
theorem dX7_saves_29 : decode cX7_saves 29 = .ok (.ifCond .eq 5, 3) := by decide +kernel
theorem dX7_saves_32 : decode cX7_saves 32 = .ok (.iload_n 3, 1) := by decide +kernel
theorem dX7_saves_33 : decode cX7_saves 33 = .ok (.ireturn, 1) := by decide +kernel
theorem dX7_saves_34 : decode cX7_saves 34 = .ok (.iinc 3 1, 3) := by decide +kernel
theorem dX7_saves_37 : decode cX7_saves 37 = .ok (.goto (-20), 3) := by decide +kernel
theorem dX7_saves_40 : decode cX7_saves 40 = .ok (.bipush (-6), 2) := by decide +kernel
theorem dX7_saves_42 : decode cX7_saves 42 = .ok (.ireturn, 1) := by decide +kernel
theorem dX7_passesAfterTaps_0 : decode cX7_passesAfterTaps 0 = .ok (.aload_n 0, 1) := by decide +kernel
theorem dX7_passesAfterTaps_1 : decode cX7_passesAfterTaps 1 = .ok (.getfield 41, 3) := by decide +kernel
theorem dX7_passesAfterTaps_4 : decode cX7_passesAfterTaps 4 = .ok (.aload_n 0, 1) := by decide +kernel
theorem dX7_passesAfterTaps_5 : decode cX7_passesAfterTaps 5 = .ok (.getfield 10, 3) := by decide +kernel
theorem dX7_passesAfterTaps_8 : decode cX7_passesAfterTaps 8 = .ok (.getfield 111, 3) := by decide +kernel
theorem dX7_passesAfterTaps_11 : decode cX7_passesAfterTaps 11 = .ok (.invokevirtual 169, 3) := by decide +kernel
theorem dX7_passesAfterTaps_14 : decode cX7_passesAfterTaps 14 = .ok (.iconst 0, 1) := by decide +kernel
theorem dX7_passesAfterTaps_15 : decode cX7_passesAfterTaps 15 = .ok (.istore_n 3, 1) := by decide +kernel
theorem dX7_passesAfterTaps_16 : decode cX7_passesAfterTaps 16 = .ok (.iload_n 3, 1) := by decide +kernel
theorem dX7_passesAfterTaps_17 : decode cX7_passesAfterTaps 17 = .ok (.iload_n 1, 1) := by decide +kernel
theorem dX7_passesAfterTaps_18 : decode cX7_passesAfterTaps 18 = .ok (.if_icmp .ge 28, 3) := by decide +kernel
theorem dX7_passesAfterTaps_21 : decode cX7_passesAfterTaps 21 = .ok (.aload_n 0, 1) := by decide +kernel
theorem dX7_passesAfterTaps_22 : decode cX7_passesAfterTaps 22 = .ok (.getfield 41, 3) := by decide +kernel
theorem dX7_passesAfterTaps_25 : decode cX7_passesAfterTaps 25 = .ok (.iload_n 2, 1) := by decide +kernel
theorem dX7_passesAfterTaps_26 : decode cX7_passesAfterTaps 26 = .ok (.aload_n 0, 1) := by decide +kernel
theorem dX7_passesAfterTaps_27 : decode cX7_passesAfterTaps 27 = .ok (.getfield 10, 3) := by decide +kernel
theorem dX7_passesAfterTaps_30 : decode cX7_passesAfterTaps 30 = .ok (.getfield 45, 3) := by decide +kernel
theorem dX7_passesAfterTaps_33 : decode cX7_passesAfterTaps 33 = .ok (.iconst 3, 1) := by decide +kernel
theorem dX7_passesAfterTaps_34 : decode cX7_passesAfterTaps 34 = .ok (.invokevirtual 135, 3) := by decide +kernel
theorem dX7_passesAfterTaps_37 : decode cX7_passesAfterTaps 37 = .ok (.invokevirtual 186, 3) := by decide +kernel
theorem dX7_passesAfterTaps_40 : decode cX7_passesAfterTaps 40 = .ok (.iinc 3 1, 3) := by decide +kernel
theorem dX7_passesAfterTaps_43 : decode cX7_passesAfterTaps 43 = .ok (.goto (-27), 3) := by decide +kernel
theorem dX7_passesAfterTaps_46 : decode cX7_passesAfterTaps 46 = .ok (.aload_n 0, 1) := by decide +kernel
theorem dX7_passesAfterTaps_47 : decode cX7_passesAfterTaps 47 = .ok (.getfield 41, 3) := by decide +kernel
theorem dX7_passesAfterTaps_50 : decode cX7_passesAfterTaps 50 = .ok (.bipush 20, 2) := by decide +kernel
theorem dX7_passesAfterTaps_52 : decode cX7_passesAfterTaps 52 = .ok (.aload_n 0, 1) := by decide +kernel
theorem dX7_passesAfterTaps_53 : decode cX7_passesAfterTaps 53 = .ok (.getfield 10, 3) := by decide +kernel
theorem dX7_passesAfterTaps_56 : decode cX7_passesAfterTaps 56 = .ok (.getfield 70, 3) := by decide +kernel
theorem dX7_passesAfterTaps_59 : decode cX7_passesAfterTaps 59 = .ok (.aload_n 0, 1) := by decide +kernel
theorem dX7_passesAfterTaps_60 : decode cX7_passesAfterTaps 60 = .ok (.getfield 10, 3) := by decide +kernel
theorem dX7_passesAfterTaps_63 : decode cX7_passesAfterTaps 63 = .ok (.getfield 45, 3) := by decide +kernel
theorem dX7_passesAfterTaps_66 : decode cX7_passesAfterTaps 66 = .ok (.invokevirtual 176, 3) := by decide +kernel
theorem dX7_passesAfterTaps_69 : decode cX7_passesAfterTaps 69 = .ok (.aload_n 0, 1) := by decide +kernel
theorem dX7_passesAfterTaps_70 : decode cX7_passesAfterTaps 70 = .ok (.getfield 41, 3) := by decide +kernel
theorem dX7_passesAfterTaps_73 : decode cX7_passesAfterTaps 73 = .ok (.getfield 156, 3) := by decide +kernel
theorem dX7_passesAfterTaps_76 : decode cX7_passesAfterTaps 76 = .ok (.iconst 4, 1) := by decide +kernel
theorem dX7_passesAfterTaps_77 : decode cX7_passesAfterTaps 77 = .ok (.if_icmp .ne 7, 3) := by decide +kernel
theorem dX7_passesAfterTaps_80 : decode cX7_passesAfterTaps 80 = .ok (.iconst 1, 1) := by decide +kernel
theorem dX7_passesAfterTaps_81 : decode cX7_passesAfterTaps 81 = .ok (.goto 4, 3) := by decide +kernel
theorem dX7_passesAfterTaps_84 : decode cX7_passesAfterTaps 84 = .ok (.iconst 0, 1) := by decide +kernel
theorem dX7_passesAfterTaps_85 : decode cX7_passesAfterTaps 85 = .ok (.ireturn, 1) := by decide +kernel
theorem dX7_traced_0 : decode cX7_traced 0 = .ok (.aload_n 0, 1) := by decide +kernel
theorem dX7_traced_1 : decode cX7_traced 1 = .ok (.getfield 10, 3) := by decide +kernel
theorem dX7_traced_4 : decode cX7_traced 4 = .ok (.getfield 70, 3) := by decide +kernel
theorem dX7_traced_7 : decode cX7_traced 7 = .ok (.iload_n 2, 1) := by decide +kernel
theorem dX7_traced_8 : decode cX7_traced 8 = .ok (.invokevirtual 74, 3) := by decide +kernel
theorem dX7_traced_11 : decode cX7_traced 11 = .ok (.ifCond .ne 5, 3) := by decide +kernel
theorem dX7_traced_14 : decode cX7_traced 14 = .ok (.iconst (-1), 1) := by decide +kernel
theorem dX7_traced_15 : decode cX7_traced 15 = .ok (.ireturn, 1) := by decide +kernel
theorem dX7_traced_16 : decode cX7_traced 16 = .ok (.iload_n 1, 1) := by decide +kernel
theorem dX7_traced_17 : decode cX7_traced 17 = .ok (.invokestatic 84, 3) := by decide +kernel
theorem dX7_traced_20 : decode cX7_traced 20 = .ok (.ifCond .eq 12, 3) := by decide +kernel
theorem dX7_traced_23 : decode cX7_traced 23 = .ok (.iload_n 3, 1) := by decide +kernel
theorem dX7_traced_24 : decode cX7_traced 24 = .ok (.ifCond .lt 8, 3) := by decide +kernel
theorem dX7_traced_27 : decode cX7_traced 27 = .ok (.iload_n 3, 1) := by decide +kernel
theorem dX7_traced_28 : decode cX7_traced 28 = .ok (.iconst 2, 1) := by decide +kernel
theorem dX7_traced_29 : decode cX7_traced 29 = .ok (.if_icmp .le 6, 3) := by decide +kernel
theorem dX7_traced_32 : decode cX7_traced 32 = .ok (.bipush (-2), 2) := by decide +kernel
theorem dX7_traced_34 : decode cX7_traced 34 = .ok (.ireturn, 1) := by decide +kernel
theorem dX7_traced_35 : decode cX7_traced 35 = .ok (.aload_n 0, 1) := by decide +kernel
theorem dX7_traced_36 : decode cX7_traced 36 = .ok (.getfield 41, 3) := by decide +kernel
theorem dX7_traced_39 : decode cX7_traced 39 = .ok (.iload_n 1, 1) := by decide +kernel
theorem dX7_traced_40 : decode cX7_traced 40 = .ok (.invokevirtual 179, 3) := by decide +kernel
theorem dX7_traced_43 : decode cX7_traced 43 = .ok (.aload_n 0, 1) := by decide +kernel
theorem dX7_traced_44 : decode cX7_traced 44 = .ok (.getfield 41, 3) := by decide +kernel
theorem dX7_traced_47 : decode cX7_traced 47 = .ok (.iload_n 2, 1) := by decide +kernel
theorem dX7_traced_48 : decode cX7_traced 48 = .ok (.iconst 1, 1) := by decide +kernel
theorem dX7_traced_49 : decode cX7_traced 49 = .ok (.iadd, 1) := by decide +kernel
theorem dX7_traced_50 : decode cX7_traced 50 = .ok (.aload_n 0, 1) := by decide +kernel
theorem dX7_traced_51 : decode cX7_traced 51 = .ok (.getfield 10, 3) := by decide +kernel
theorem dX7_traced_54 : decode cX7_traced 54 = .ok (.getfield 70, 3) := by decide +kernel
theorem dX7_traced_57 : decode cX7_traced 57 = .ok (.aload_n 0, 1) := by decide +kernel
theorem dX7_traced_58 : decode cX7_traced 58 = .ok (.getfield 10, 3) := by decide +kernel
theorem dX7_traced_61 : decode cX7_traced 61 = .ok (.getfield 45, 3) := by decide +kernel
theorem dX7_traced_64 : decode cX7_traced 64 = .ok (.invokevirtual 176, 3) := by decide +kernel
theorem dX7_traced_67 : decode cX7_traced 67 = .ok (.aload_n 0, 1) := by decide +kernel
theorem dX7_traced_68 : decode cX7_traced 68 = .ok (.getfield 41, 3) := by decide +kernel
theorem dX7_traced_71 : decode cX7_traced 71 = .ok (.getfield 156, 3) := by decide +kernel
theorem dX7_traced_74 : decode cX7_traced 74 = .ok (.ifCond .eq 17, 3) := by decide +kernel
theorem dX7_traced_77 : decode cX7_traced 77 = .ok (.aload_n 0, 1) := by decide +kernel
theorem dX7_traced_78 : decode cX7_traced 78 = .ok (.getfield 41, 3) := by decide +kernel
theorem dX7_traced_81 : decode cX7_traced 81 = .ok (.getfield 156, 3) := by decide +kernel
theorem dX7_traced_84 : decode cX7_traced 84 = .ok (.iconst 4, 1) := by decide +kernel
theorem dX7_traced_85 : decode cX7_traced 85 = .ok (.if_icmp .eq 6, 3) := by decide +kernel
theorem dX7_traced_88 : decode cX7_traced 88 = .ok (.bipush (-6), 2) := by decide +kernel
theorem dX7_traced_90 : decode cX7_traced 90 = .ok (.ireturn, 1) := by decide +kernel
theorem dX7_traced_91 : decode cX7_traced 91 = .ok (.aload_n 0, 1) := by decide +kernel
theorem dX7_traced_92 : decode cX7_traced 92 = .ok (.getfield 41, 3) := by decide +kernel
theorem dX7_traced_95 : decode cX7_traced 95 = .ok (.iload_n 3, 1) := by decide +kernel
theorem dX7_traced_96 : decode cX7_traced 96 = .ok (.iconst 1, 1) := by decide +kernel
theorem dX7_traced_97 : decode cX7_traced 97 = .ok (.iadd, 1) := by decide +kernel
theorem dX7_traced_98 : decode cX7_traced 98 = .ok (.invokestatic 118, 3) := by decide +kernel
theorem dX7_traced_101 : decode cX7_traced 101 = .ok (.ireturn, 1) := by decide +kernel
theorem dX7_put_0 : decode cX7_put 0 = .ok (.lload_n 1, 1) := by decide +kernel
theorem dX7_put_1 : decode cX7_put 1 = .ok (.invokestatic 190, 3) := by decide +kernel
theorem dX7_put_4 : decode cX7_put 4 = .ok (.istore_n 3, 1) := by decide +kernel
theorem dX7_put_5 : decode cX7_put 5 = .ok (.iload_n 3, 1) := by decide +kernel
theorem dX7_put_6 : decode cX7_put 6 = .ok (.ifCond .ne 6, 3) := by decide +kernel
theorem dX7_put_9 : decode cX7_put 9 = .ok (.bipush (-2), 2) := by decide +kernel
theorem dX7_put_11 : decode cX7_put 11 = .ok (.ireturn, 1) := by decide +kernel
theorem dX7_put_12 : decode cX7_put 12 = .ok (.aload_n 0, 1) := by decide +kernel
theorem dX7_put_13 : decode cX7_put 13 = .ok (.getfield 34, 3) := by decide +kernel
theorem dX7_put_16 : decode cX7_put 16 = .ok (.getfield 130, 3) := by decide +kernel
theorem dX7_put_19 : decode cX7_put 19 = .ok (.iload_n 3, 1) := by decide +kernel
theorem dX7_put_20 : decode cX7_put 20 = .ok (.iadd, 1) := by decide +kernel
theorem dX7_put_21 : decode cX7_put 21 = .ok (.bipush 80, 2) := by decide +kernel
theorem dX7_put_23 : decode cX7_put 23 = .ok (.if_icmp .le 6, 3) := by decide +kernel
theorem dX7_put_26 : decode cX7_put 26 = .ok (.bipush (-4), 2) := by decide +kernel
theorem dX7_put_28 : decode cX7_put 28 = .ok (.ireturn, 1) := by decide +kernel
theorem dX7_put_29 : decode cX7_put 29 = .ok (.aload_n 0, 1) := by decide +kernel
theorem dX7_put_30 : decode cX7_put 30 = .ok (.getfield 34, 3) := by decide +kernel
theorem dX7_put_33 : decode cX7_put 33 = .ok (.lload_n 1, 1) := by decide +kernel
theorem dX7_put_34 : decode cX7_put 34 = .ok (.iload_n 3, 1) := by decide +kernel
theorem dX7_put_35 : decode cX7_put 35 = .ok (.invokevirtual 194, 3) := by decide +kernel
theorem dX7_put_38 : decode cX7_put 38 = .ok (.ireturn, 1) := by decide +kernel
theorem dX7_wipe_0 : decode cX7_wipe 0 = .ok (.aload_n 0, 1) := by decide +kernel
theorem dX7_wipe_1 : decode cX7_wipe 1 = .ok (.getfield 34, 3) := by decide +kernel
theorem dX7_wipe_4 : decode cX7_wipe 4 = .ok (.invokevirtual 198, 3) := by decide +kernel
theorem dX7_wipe_7 : decode cX7_wipe 7 = .ok (.ireturn, 1) := by decide +kernel
theorem dX7_fault_0 : decode cX7_fault 0 = .ok (.aload_n 0, 1) := by decide +kernel
theorem dX7_fault_1 : decode cX7_fault 1 = .ok (.getfield 34, 3) := by decide +kernel
theorem dX7_fault_4 : decode cX7_fault 4 = .ok (.invokevirtual 201, 3) := by decide +kernel
theorem dX7_fault_7 : decode cX7_fault 7 = .ok (.ireturn, 1) := by decide +kernel
theorem dX7_carryOut_0 : decode cX7_carryOut 0 = .ok (.aload_n 0, 1) := by decide +kernel
theorem dX7_carryOut_1 : decode cX7_carryOut 1 = .ok (.getfield 34, 3) := by decide +kernel
theorem dX7_carryOut_4 : decode cX7_carryOut 4 = .ok (.invokevirtual 201, 3) := by decide +kernel
theorem dX7_carryOut_7 : decode cX7_carryOut 7 = .ok (.bipush (-6), 2) := by decide +kernel
theorem dX7_carryOut_9 : decode cX7_carryOut 9 = .ok (.if_icmp .eq 6, 3) := by decide +kernel
theorem dX7_carryOut_12 : decode cX7_carryOut 12 = .ok (.bipush (-3), 2) := by decide +kernel
theorem dX7_carryOut_14 : decode cX7_carryOut 14 = .ok (.ireturn, 1) := by decide +kernel
theorem dX7_carryOut_15 : decode cX7_carryOut 15 = .ok (.aload_n 0, 1) := by decide +kernel
theorem dX7_carryOut_16 : decode cX7_carryOut 16 = .ok (.getfield 19, 3) := by decide +kernel
theorem dX7_carryOut_19 : decode cX7_carryOut 19 = .ok (.aload_n 0, 1) := by decide +kernel
theorem dX7_carryOut_20 : decode cX7_carryOut 20 = .ok (.getfield 10, 3) := by decide +kernel
theorem dX7_carryOut_23 : decode cX7_carryOut 23 = .ok (.invokevirtual 55, 3) := by decide +kernel
theorem dX7_carryOut_26 : decode cX7_carryOut 26 = .ok (.iconst 0, 1) := by decide +kernel
theorem dX7_carryOut_27 : decode cX7_carryOut 27 = .ok (.istore_n 1, 1) := by decide +kernel
theorem dX7_carryOut_28 : decode cX7_carryOut 28 = .ok (.aload_n 0, 1) := by decide +kernel
theorem dX7_carryOut_29 : decode cX7_carryOut 29 = .ok (.getfield 34, 3) := by decide +kernel
theorem dX7_carryOut_32 : decode cX7_carryOut 32 = .ok (.invokevirtual 204, 3) := by decide +kernel
theorem dX7_carryOut_35 : decode cX7_carryOut 35 = .ok (.iconst 0, 1) := by decide +kernel
theorem dX7_carryOut_36 : decode cX7_carryOut 36 = .ok (.istore_n 2, 1) := by decide +kernel
theorem dX7_carryOut_37 : decode cX7_carryOut 37 = .ok (.iload_n 2, 1) := by decide +kernel
theorem dX7_carryOut_38 : decode cX7_carryOut 38 = .ok (.bipush 80, 2) := by decide +kernel
theorem dX7_carryOut_40 : decode cX7_carryOut 40 = .ok (.if_icmp .ge 73, 3) := by decide +kernel
theorem dX7_carryOut_43 : decode cX7_carryOut 43 = .ok (.aload_n 0, 1) := by decide +kernel
theorem dX7_carryOut_44 : decode cX7_carryOut 44 = .ok (.getfield 34, 3) := by decide +kernel
theorem dX7_carryOut_47 : decode cX7_carryOut 47 = .ok (.invokevirtual 207, 3) := by decide +kernel
theorem dX7_carryOut_50 : decode cX7_carryOut 50 = .ok (.ifCond .eq 63, 3) := by decide +kernel
theorem dX7_carryOut_53 : decode cX7_carryOut 53 = .ok (.aload_n 0, 1) := by decide +kernel
theorem dX7_carryOut_54 : decode cX7_carryOut 54 = .ok (.aload_n 0, 1) := by decide +kernel
theorem dX7_carryOut_55 : decode cX7_carryOut 55 = .ok (.getfield 34, 3) := by decide +kernel
theorem dX7_carryOut_58 : decode cX7_carryOut 58 = .ok (.getfield 210, 3) := by decide +kernel
theorem dX7_carryOut_61 : decode cX7_carryOut 61 = .ok (.aload_n 0, 1) := by decide +kernel
theorem dX7_carryOut_62 : decode cX7_carryOut 62 = .ok (.getfield 34, 3) := by decide +kernel
theorem dX7_carryOut_65 : decode cX7_carryOut 65 = .ok (.getfield 213, 3) := by decide +kernel
theorem dX7_carryOut_68 : decode cX7_carryOut 68 = .ok (.invokevirtual 215, 3) := by decide +kernel
theorem dX7_carryOut_71 : decode cX7_carryOut 71 = .ok (.ifCond .eq 6, 3) := by decide +kernel
theorem dX7_carryOut_74 : decode cX7_carryOut 74 = .ok (.goto 39, 3) := by decide +kernel
theorem dX7_carryOut_77 : decode cX7_carryOut 77 = .ok (.aload_n 0, 1) := by decide +kernel
theorem dX7_carryOut_78 : decode cX7_carryOut 78 = .ok (.aload_n 0, 1) := by decide +kernel
theorem dX7_carryOut_79 : decode cX7_carryOut 79 = .ok (.getfield 34, 3) := by decide +kernel
theorem dX7_carryOut_82 : decode cX7_carryOut 82 = .ok (.getfield 210, 3) := by decide +kernel
theorem dX7_carryOut_85 : decode cX7_carryOut 85 = .ok (.aload_n 0, 1) := by decide +kernel
theorem dX7_carryOut_86 : decode cX7_carryOut 86 = .ok (.getfield 34, 3) := by decide +kernel
theorem dX7_carryOut_89 : decode cX7_carryOut 89 = .ok (.getfield 213, 3) := by decide +kernel
theorem dX7_carryOut_92 : decode cX7_carryOut 92 = .ok (.invokevirtual 218, 3) := by decide +kernel
theorem dX7_carryOut_95 : decode cX7_carryOut 95 = .ok (.pop, 1) := by decide +kernel
theorem dX7_carryOut_96 : decode cX7_carryOut 96 = .ok (.iinc 1 1, 3) := by decide +kernel
theorem dX7_carryOut_99 : decode cX7_carryOut 99 = .ok (.aload_n 0, 1) := by decide +kernel
theorem dX7_carryOut_100 : decode cX7_carryOut 100 = .ok (.getfield 34, 3) := by decide +kernel
theorem dX7_carryOut_103 : decode cX7_carryOut 103 = .ok (.invokevirtual 221, 3) := by decide +kernel
theorem dX7_carryOut_106 : decode cX7_carryOut 106 = .ok (.pop, 1) := by decide +kernel
theorem dX7_carryOut_107 : decode cX7_carryOut 107 = .ok (.iinc 2 1, 3) := by decide +kernel
theorem dX7_carryOut_110 : decode cX7_carryOut 110 = .ok (.goto (-73), 3) := by decide +kernel
theorem dX7_carryOut_113 : decode cX7_carryOut 113 = .ok (.aload_n 0, 1) := by decide +kernel
theorem dX7_carryOut_114 : decode cX7_carryOut 114 = .ok (.getfield 34, 3) := by decide +kernel
theorem dX7_carryOut_117 : decode cX7_carryOut 117 = .ok (.invokevirtual 198, 3) := by decide +kernel
theorem dX7_carryOut_120 : decode cX7_carryOut 120 = .ok (.pop, 1) := by decide +kernel
theorem dX7_carryOut_121 : decode cX7_carryOut 121 = .ok (.iload_n 1, 1) := by decide +kernel
theorem dX7_carryOut_122 : decode cX7_carryOut 122 = .ok (.ireturn, 1) := by decide +kernel
theorem dX7_orderError_0 : decode cX7_orderError 0 = .ok (.iload_n 1, 1) := by decide +kernel
theorem dX7_orderError_1 : decode cX7_orderError 1 = .ok (.lookupswitch 168 #[(60, 150), (62, 159), (100, 67), (103, 107), (104, 127), (108, 87), (114, 141)], 67) := by decide +kernel
theorem dX7_orderError_68 : decode cX7_orderError 68 = .ok (.aload_n 0, 1) := by decide +kernel
theorem dX7_orderError_69 : decode cX7_orderError 69 = .ok (.getfield 10, 3) := by decide +kernel
theorem dX7_orderError_72 : decode cX7_orderError 72 = .ok (.aload_n 0, 1) := by decide +kernel
theorem dX7_orderError_73 : decode cX7_orderError 73 = .ok (.getfield 10, 3) := by decide +kernel
theorem dX7_orderError_76 : decode cX7_orderError 76 = .ok (.getfield 70, 3) := by decide +kernel
theorem dX7_orderError_79 : decode cX7_orderError 79 = .ok (.getfield 224, 3) := by decide +kernel
theorem dX7_orderError_82 : decode cX7_orderError 82 = .ok (.iconst 0, 1) := by decide +kernel
theorem dX7_orderError_83 : decode cX7_orderError 83 = .ok (.iload_n 2, 1) := by decide +kernel
theorem dX7_orderError_84 : decode cX7_orderError 84 = .ok (.invokevirtual 63, 3) := by decide +kernel
theorem dX7_orderError_87 : decode cX7_orderError 87 = .ok (.ireturn, 1) := by decide +kernel
theorem dX7_orderError_88 : decode cX7_orderError 88 = .ok (.aload_n 0, 1) := by decide +kernel
theorem dX7_orderError_89 : decode cX7_orderError 89 = .ok (.getfield 10, 3) := by decide +kernel
theorem dX7_orderError_92 : decode cX7_orderError 92 = .ok (.aload_n 0, 1) := by decide +kernel
theorem dX7_orderError_93 : decode cX7_orderError 93 = .ok (.getfield 10, 3) := by decide +kernel
theorem dX7_orderError_96 : decode cX7_orderError 96 = .ok (.getfield 70, 3) := by decide +kernel
theorem dX7_orderError_99 : decode cX7_orderError 99 = .ok (.getfield 224, 3) := by decide +kernel
theorem dX7_orderError_102 : decode cX7_orderError 102 = .ok (.iconst 1, 1) := by decide +kernel
theorem dX7_orderError_103 : decode cX7_orderError 103 = .ok (.iload_n 2, 1) := by decide +kernel
theorem dX7_orderError_104 : decode cX7_orderError 104 = .ok (.invokevirtual 63, 3) := by decide +kernel
theorem dX7_orderError_107 : decode cX7_orderError 107 = .ok (.ireturn, 1) := by decide +kernel
theorem dX7_orderError_108 : decode cX7_orderError 108 = .ok (.aload_n 0, 1) := by decide +kernel
theorem dX7_orderError_109 : decode cX7_orderError 109 = .ok (.getfield 10, 3) := by decide +kernel
theorem dX7_orderError_112 : decode cX7_orderError 112 = .ok (.aload_n 0, 1) := by decide +kernel
theorem dX7_orderError_113 : decode cX7_orderError 113 = .ok (.getfield 10, 3) := by decide +kernel
theorem dX7_orderError_116 : decode cX7_orderError 116 = .ok (.getfield 70, 3) := by decide +kernel
theorem dX7_orderError_119 : decode cX7_orderError 119 = .ok (.getfield 224, 3) := by decide +kernel
theorem dX7_orderError_122 : decode cX7_orderError 122 = .ok (.iconst 2, 1) := by decide +kernel
theorem dX7_orderError_123 : decode cX7_orderError 123 = .ok (.iload_n 2, 1) := by decide +kernel
theorem dX7_orderError_124 : decode cX7_orderError 124 = .ok (.invokevirtual 63, 3) := by decide +kernel
theorem dX7_orderError_127 : decode cX7_orderError 127 = .ok (.ireturn, 1) := by decide +kernel
theorem dX7_orderError_128 : decode cX7_orderError 128 = .ok (.iload_n 2, 1) := by decide +kernel
theorem dX7_orderError_129 : decode cX7_orderError 129 = .ok (.invokestatic 84, 3) := by decide +kernel
theorem dX7_orderError_132 : decode cX7_orderError 132 = .ok (.ifCond .eq 7, 3) := by decide +kernel
theorem dX7_orderError_135 : decode cX7_orderError 135 = .ok (.iconst 0, 1) := by decide +kernel
theorem dX7_orderError_136 : decode cX7_orderError 136 = .ok (.goto 5, 3) := by decide +kernel
theorem dX7_orderError_139 : decode cX7_orderError 139 = .ok (.bipush (-2), 2) := by decide +kernel
theorem dX7_orderError_141 : decode cX7_orderError 141 = .ok (.ireturn, 1) := by decide +kernel
theorem dX7_orderError_142 : decode cX7_orderError 142 = .ok (.aload_n 0, 1) := by decide +kernel
theorem dX7_orderError_143 : decode cX7_orderError 143 = .ok (.getfield 10, 3) := by decide +kernel
theorem dX7_orderError_146 : decode cX7_orderError 146 = .ok (.iload_n 2, 1) := by decide +kernel
theorem dX7_orderError_147 : decode cX7_orderError 147 = .ok (.invokevirtual 89, 3) := by decide +kernel
theorem dX7_orderError_150 : decode cX7_orderError 150 = .ok (.ireturn, 1) := by decide +kernel
theorem dX7_orderError_151 : decode cX7_orderError 151 = .ok (.aload_n 0, 1) := by decide +kernel
theorem dX7_orderError_152 : decode cX7_orderError 152 = .ok (.getfield 10, 3) := by decide +kernel
theorem dX7_orderError_155 : decode cX7_orderError 155 = .ok (.iconst 0, 1) := by decide +kernel
theorem dX7_orderError_156 : decode cX7_orderError 156 = .ok (.invokevirtual 95, 3) := by decide +kernel
theorem dX7_orderError_159 : decode cX7_orderError 159 = .ok (.ireturn, 1) := by decide +kernel
theorem dX7_orderError_160 : decode cX7_orderError 160 = .ok (.aload_n 0, 1) := by decide +kernel
theorem dX7_orderError_161 : decode cX7_orderError 161 = .ok (.getfield 10, 3) := by decide +kernel
theorem dX7_orderError_164 : decode cX7_orderError 164 = .ok (.iconst 1, 1) := by decide +kernel
theorem dX7_orderError_165 : decode cX7_orderError 165 = .ok (.invokevirtual 95, 3) := by decide +kernel
theorem dX7_orderError_168 : decode cX7_orderError 168 = .ok (.ireturn, 1) := by decide +kernel
theorem dX7_orderError_169 : decode cX7_orderError 169 = .ok (.aload_n 0, 1) := by decide +kernel
theorem dX7_orderError_170 : decode cX7_orderError 170 = .ok (.getfield 10, 3) := by decide +kernel
theorem dX7_orderError_173 : decode cX7_orderError 173 = .ok (.invokevirtual 101, 3) := by decide +kernel
theorem dX7_orderError_176 : decode cX7_orderError 176 = .ok (.ireturn, 1) := by decide +kernel
theorem dX7_carryOrder_0 : decode cX7_carryOrder 0 = .ok (.iload_n 1, 1) := by decide +kernel
theorem dX7_carryOrder_1 : decode cX7_carryOrder 1 = .ok (.lookupswitch 163 #[(60, 145), (62, 154), (100, 67), (103, 107), (104, 127), (108, 87), (114, 136)], 67) := by decide +kernel
theorem dX7_carryOrder_68 : decode cX7_carryOrder 68 = .ok (.aload_n 0, 1) := by decide +kernel
theorem dX7_carryOrder_69 : decode cX7_carryOrder 69 = .ok (.getfield 10, 3) := by decide +kernel
theorem dX7_carryOrder_72 : decode cX7_carryOrder 72 = .ok (.aload_n 0, 1) := by decide +kernel
theorem dX7_carryOrder_73 : decode cX7_carryOrder 73 = .ok (.getfield 10, 3) := by decide +kernel
theorem dX7_carryOrder_76 : decode cX7_carryOrder 76 = .ok (.getfield 70, 3) := by decide +kernel
theorem dX7_carryOrder_79 : decode cX7_carryOrder 79 = .ok (.getfield 224, 3) := by decide +kernel
theorem dX7_carryOrder_82 : decode cX7_carryOrder 82 = .ok (.iconst 0, 1) := by decide +kernel
theorem dX7_carryOrder_83 : decode cX7_carryOrder 83 = .ok (.iload_n 2, 1) := by decide +kernel
theorem dX7_carryOrder_84 : decode cX7_carryOrder 84 = .ok (.invokevirtual 67, 3) := by decide +kernel
theorem dX7_carryOrder_87 : decode cX7_carryOrder 87 = .ok (.ireturn, 1) := by decide +kernel
theorem dX7_carryOrder_88 : decode cX7_carryOrder 88 = .ok (.aload_n 0, 1) := by decide +kernel
theorem dX7_carryOrder_89 : decode cX7_carryOrder 89 = .ok (.getfield 10, 3) := by decide +kernel
theorem dX7_carryOrder_92 : decode cX7_carryOrder 92 = .ok (.aload_n 0, 1) := by decide +kernel
theorem dX7_carryOrder_93 : decode cX7_carryOrder 93 = .ok (.getfield 10, 3) := by decide +kernel
theorem dX7_carryOrder_96 : decode cX7_carryOrder 96 = .ok (.getfield 70, 3) := by decide +kernel
theorem dX7_carryOrder_99 : decode cX7_carryOrder 99 = .ok (.getfield 224, 3) := by decide +kernel
theorem dX7_carryOrder_102 : decode cX7_carryOrder 102 = .ok (.iconst 1, 1) := by decide +kernel
theorem dX7_carryOrder_103 : decode cX7_carryOrder 103 = .ok (.iload_n 2, 1) := by decide +kernel
theorem dX7_carryOrder_104 : decode cX7_carryOrder 104 = .ok (.invokevirtual 67, 3) := by decide +kernel
theorem dX7_carryOrder_107 : decode cX7_carryOrder 107 = .ok (.ireturn, 1) := by decide +kernel
theorem dX7_carryOrder_108 : decode cX7_carryOrder 108 = .ok (.aload_n 0, 1) := by decide +kernel
theorem dX7_carryOrder_109 : decode cX7_carryOrder 109 = .ok (.getfield 10, 3) := by decide +kernel
theorem dX7_carryOrder_112 : decode cX7_carryOrder 112 = .ok (.aload_n 0, 1) := by decide +kernel
theorem dX7_carryOrder_113 : decode cX7_carryOrder 113 = .ok (.getfield 10, 3) := by decide +kernel
theorem dX7_carryOrder_116 : decode cX7_carryOrder 116 = .ok (.getfield 70, 3) := by decide +kernel
theorem dX7_carryOrder_119 : decode cX7_carryOrder 119 = .ok (.getfield 224, 3) := by decide +kernel
theorem dX7_carryOrder_122 : decode cX7_carryOrder 122 = .ok (.iconst 2, 1) := by decide +kernel
theorem dX7_carryOrder_123 : decode cX7_carryOrder 123 = .ok (.iload_n 2, 1) := by decide +kernel
theorem dX7_carryOrder_124 : decode cX7_carryOrder 124 = .ok (.invokevirtual 67, 3) := by decide +kernel
theorem dX7_carryOrder_127 : decode cX7_carryOrder 127 = .ok (.ireturn, 1) := by decide +kernel
theorem dX7_carryOrder_128 : decode cX7_carryOrder 128 = .ok (.aload_n 0, 1) := by decide +kernel
theorem dX7_carryOrder_129 : decode cX7_carryOrder 129 = .ok (.getfield 10, 3) := by decide +kernel
theorem dX7_carryOrder_132 : decode cX7_carryOrder 132 = .ok (.iload_n 2, 1) := by decide +kernel
theorem dX7_carryOrder_133 : decode cX7_carryOrder 133 = .ok (.invokevirtual 86, 3) := by decide +kernel
theorem dX7_carryOrder_136 : decode cX7_carryOrder 136 = .ok (.ireturn, 1) := by decide +kernel
theorem dX7_carryOrder_137 : decode cX7_carryOrder 137 = .ok (.aload_n 0, 1) := by decide +kernel
theorem dX7_carryOrder_138 : decode cX7_carryOrder 138 = .ok (.getfield 10, 3) := by decide +kernel
theorem dX7_carryOrder_141 : decode cX7_carryOrder 141 = .ok (.iload_n 2, 1) := by decide +kernel
theorem dX7_carryOrder_142 : decode cX7_carryOrder 142 = .ok (.invokevirtual 92, 3) := by decide +kernel
theorem dX7_carryOrder_145 : decode cX7_carryOrder 145 = .ok (.ireturn, 1) := by decide +kernel
theorem dX7_carryOrder_146 : decode cX7_carryOrder 146 = .ok (.aload_n 0, 1) := by decide +kernel
theorem dX7_carryOrder_147 : decode cX7_carryOrder 147 = .ok (.getfield 10, 3) := by decide +kernel
theorem dX7_carryOrder_150 : decode cX7_carryOrder 150 = .ok (.iconst 0, 1) := by decide +kernel
theorem dX7_carryOrder_151 : decode cX7_carryOrder 151 = .ok (.invokevirtual 98, 3) := by decide +kernel
theorem dX7_carryOrder_154 : decode cX7_carryOrder 154 = .ok (.ireturn, 1) := by decide +kernel
theorem dX7_carryOrder_155 : decode cX7_carryOrder 155 = .ok (.aload_n 0, 1) := by decide +kernel
theorem dX7_carryOrder_156 : decode cX7_carryOrder 156 = .ok (.getfield 10, 3) := by decide +kernel
theorem dX7_carryOrder_159 : decode cX7_carryOrder 159 = .ok (.iconst 1, 1) := by decide +kernel
theorem dX7_carryOrder_160 : decode cX7_carryOrder 160 = .ok (.invokevirtual 98, 3) := by decide +kernel
theorem dX7_carryOrder_163 : decode cX7_carryOrder 163 = .ok (.ireturn, 1) := by decide +kernel
theorem dX7_carryOrder_164 : decode cX7_carryOrder 164 = .ok (.aload_n 0, 1) := by decide +kernel
theorem dX7_carryOrder_165 : decode cX7_carryOrder 165 = .ok (.getfield 10, 3) := by decide +kernel
theorem dX7_carryOrder_168 : decode cX7_carryOrder 168 = .ok (.invokevirtual 105, 3) := by decide +kernel
theorem dX7_carryOrder_171 : decode cX7_carryOrder 171 = .ok (.ireturn, 1) := by decide +kernel
theorem dX7_undo_0 : decode cX7_undo 0 = .ok (.aload_n 0, 1) := by decide +kernel
theorem dX7_undo_1 : decode cX7_undo 1 = .ok (.getfield 19, 3) := by decide +kernel
theorem dX7_undo_4 : decode cX7_undo 4 = .ok (.getfield 134, 3) := by decide +kernel
theorem dX7_undo_7 : decode cX7_undo 7 = .ok (.ifCond .ne 6, 3) := by decide +kernel
theorem dX7_undo_10 : decode cX7_undo 10 = .ok (.bipush (-5), 2) := by decide +kernel
theorem dX7_undo_12 : decode cX7_undo 12 = .ok (.ireturn, 1) := by decide +kernel
theorem dX7_undo_13 : decode cX7_undo 13 = .ok (.aload_n 0, 1) := by decide +kernel
theorem dX7_undo_14 : decode cX7_undo 14 = .ok (.getfield 19, 3) := by decide +kernel
theorem dX7_undo_17 : decode cX7_undo 17 = .ok (.aload_n 0, 1) := by decide +kernel
theorem dX7_undo_18 : decode cX7_undo 18 = .ok (.getfield 10, 3) := by decide +kernel
theorem dX7_undo_21 : decode cX7_undo 21 = .ok (.invokevirtual 225, 3) := by decide +kernel
theorem dX7_undo_24 : decode cX7_undo 24 = .ok (.ireturn, 1) := by decide +kernel
theorem dX7_save_0 : decode cX7_save 0 = .ok (.iload_n 1, 1) := by decide +kernel
theorem dX7_save_1 : decode cX7_save 1 = .ok (.ifCond .lt 8, 3) := by decide +kernel
theorem dX7_save_4 : decode cX7_save 4 = .ok (.iload_n 1, 1) := by decide +kernel
theorem dX7_save_5 : decode cX7_save 5 = .ok (.iconst 2, 1) := by decide +kernel
theorem dX7_save_6 : decode cX7_save 6 = .ok (.if_icmp .lt 6, 3) := by decide +kernel
theorem dX7_save_9 : decode cX7_save 9 = .ok (.bipush (-2), 2) := by decide +kernel
theorem dX7_save_11 : decode cX7_save 11 = .ok (.ireturn, 1) := by decide +kernel
theorem dX7_save_12 : decode cX7_save 12 = .ok (.aload_n 0, 1) := by decide +kernel
theorem dX7_save_13 : decode cX7_save 13 = .ok (.getfield 23, 3) := by decide +kernel
theorem dX7_save_16 : decode cX7_save 16 = .ok (.iload_n 1, 1) := by decide +kernel
theorem dX7_save_17 : decode cX7_save 17 = .ok (.aaload, 1) := by decide +kernel
theorem dX7_save_18 : decode cX7_save 18 = .ok (.aload_n 0, 1) := by decide +kernel
theorem dX7_save_19 : decode cX7_save 19 = .ok (.getfield 10, 3) := by decide +kernel
theorem dX7_save_22 : decode cX7_save 22 = .ok (.invokevirtual 229, 3) := by decide +kernel
theorem dX7_save_25 : decode cX7_save 25 = .ok (.aload_n 0, 1) := by decide +kernel
theorem dX7_save_26 : decode cX7_save 26 = .ok (.getfield 27, 3) := by decide +kernel
theorem dX7_save_29 : decode cX7_save 29 = .ok (.iload_n 1, 1) := by decide +kernel
theorem dX7_save_30 : decode cX7_save 30 = .ok (.iconst 1, 1) := by decide +kernel
theorem dX7_save_31 : decode cX7_save 31 = .ok (.bastore, 1) := by decide +kernel
theorem dX7_save_32 : decode cX7_save 32 = .ok (.aload_n 0, 1) := by decide +kernel
theorem dX7_save_33 : decode cX7_save 33 = .ok (.getfield 10, 3) := by decide +kernel
theorem dX7_save_36 : decode cX7_save 36 = .ok (.getfield 70, 3) := by decide +kernel
theorem dX7_save_39 : decode cX7_save 39 = .ok (.getfield 224, 3) := by decide +kernel
theorem dX7_save_42 : decode cX7_save 42 = .ok (.ireturn, 1) := by decide +kernel
theorem dX7_restore_0 : decode cX7_restore 0 = .ok (.iload_n 1, 1) := by decide +kernel
theorem dX7_restore_1 : decode cX7_restore 1 = .ok (.ifCond .lt 8, 3) := by decide +kernel
theorem dX7_restore_4 : decode cX7_restore 4 = .ok (.iload_n 1, 1) := by decide +kernel
theorem dX7_restore_5 : decode cX7_restore 5 = .ok (.iconst 2, 1) := by decide +kernel
theorem dX7_restore_6 : decode cX7_restore 6 = .ok (.if_icmp .lt 6, 3) := by decide +kernel
theorem dX7_restore_9 : decode cX7_restore 9 = .ok (.bipush (-2), 2) := by decide +kernel
theorem dX7_restore_11 : decode cX7_restore 11 = .ok (.ireturn, 1) := by decide +kernel
theorem dX7_restore_12 : decode cX7_restore 12 = .ok (.aload_n 0, 1) := by decide +kernel
theorem dX7_restore_13 : decode cX7_restore 13 = .ok (.getfield 27, 3) := by decide +kernel
theorem dX7_restore_16 : decode cX7_restore 16 = .ok (.iload_n 1, 1) := by decide +kernel
theorem dX7_restore_17 : decode cX7_restore 17 = .ok (.baload, 1) := by decide +kernel
theorem dX7_restore_18 : decode cX7_restore 18 = .ok (.ifCond .ne 6, 3) := by decide +kernel
theorem dX7_restore_21 : decode cX7_restore 21 = .ok (.bipush (-5), 2) := by decide +kernel
theorem dX7_restore_23 : decode cX7_restore 23 = .ok (.ireturn, 1) := by decide +kernel
theorem dX7_restore_24 : decode cX7_restore 24 = .ok (.aload_n 0, 1) := by decide +kernel
theorem dX7_restore_25 : decode cX7_restore 25 = .ok (.getfield 19, 3) := by decide +kernel
theorem dX7_restore_28 : decode cX7_restore 28 = .ok (.aload_n 0, 1) := by decide +kernel
theorem dX7_restore_29 : decode cX7_restore 29 = .ok (.getfield 10, 3) := by decide +kernel
theorem dX7_restore_32 : decode cX7_restore 32 = .ok (.invokevirtual 55, 3) := by decide +kernel
theorem dX7_restore_35 : decode cX7_restore 35 = .ok (.aload_n 0, 1) := by decide +kernel
theorem dX7_restore_36 : decode cX7_restore 36 = .ok (.getfield 10, 3) := by decide +kernel
theorem dX7_restore_39 : decode cX7_restore 39 = .ok (.aload_n 0, 1) := by decide +kernel
theorem dX7_restore_40 : decode cX7_restore 40 = .ok (.getfield 23, 3) := by decide +kernel
theorem dX7_restore_43 : decode cX7_restore 43 = .ok (.iload_n 1, 1) := by decide +kernel
theorem dX7_restore_44 : decode cX7_restore 44 = .ok (.aaload, 1) := by decide +kernel
theorem dX7_restore_45 : decode cX7_restore 45 = .ok (.invokevirtual 229, 3) := by decide +kernel
theorem dX7_restore_48 : decode cX7_restore 48 = .ok (.aload_n 0, 1) := by decide +kernel
theorem dX7_restore_49 : decode cX7_restore 49 = .ok (.getfield 10, 3) := by decide +kernel
theorem dX7_restore_52 : decode cX7_restore 52 = .ok (.getfield 70, 3) := by decide +kernel
theorem dX7_restore_55 : decode cX7_restore 55 = .ok (.getfield 224, 3) := by decide +kernel
theorem dX7_restore_58 : decode cX7_restore 58 = .ok (.ireturn, 1) := by decide +kernel
theorem dX8_init_0 : decode cX8_init 0 = .ok (.aload_n 0, 1) := by decide +kernel
theorem dX8_init_1 : decode cX8_init 1 = .ok (.invokespecial 1, 3) := by decide +kernel
theorem dX8_init_4 : decode cX8_init 4 = .ok (.aload_n 0, 1) := by decide +kernel
theorem dX8_init_5 : decode cX8_init 5 = .ok (.sipush 322, 3) := by decide +kernel
theorem dX8_init_8 : decode cX8_init 8 = .ok (.newarray .int, 2) := by decide +kernel
theorem dX8_init_10 : decode cX8_init 10 = .ok (.putfield 7, 3) := by decide +kernel
theorem dX8_init_13 : decode cX8_init 13 = .ok (.aload_n 0, 1) := by decide +kernel
theorem dX8_init_14 : decode cX8_init 14 = .ok (.sipush 966, 3) := by decide +kernel
theorem dX8_init_17 : decode cX8_init 17 = .ok (.newarray .int, 2) := by decide +kernel
theorem dX8_init_19 : decode cX8_init 19 = .ok (.putfield 13, 3) := by decide +kernel
theorem dX8_init_22 : decode cX8_init 22 = .ok (.aload_n 0, 1) := by decide +kernel
theorem dX8_init_23 : decode cX8_init 23 = .ok (.sipush 322, 3) := by decide +kernel
theorem dX8_init_26 : decode cX8_init 26 = .ok (.newarray .int, 2) := by decide +kernel
theorem dX8_init_28 : decode cX8_init 28 = .ok (.putfield 16, 3) := by decide +kernel
theorem dX8_init_31 : decode cX8_init 31 = .ok (.aload_n 0, 1) := by decide +kernel
theorem dX8_init_32 : decode cX8_init 32 = .ok (.iconst 2, 1) := by decide +kernel
theorem dX8_init_33 : decode cX8_init 33 = .ok (.newarray .boolean, 2) := by decide +kernel
theorem dX8_init_35 : decode cX8_init 35 = .ok (.putfield 19, 3) := by decide +kernel
theorem dX8_init_38 : decode cX8_init 38 = .ok (.aload_n 0, 1) := by decide +kernel
theorem dX8_init_39 : decode cX8_init 39 = .ok (.bipush 80, 2) := by decide +kernel
theorem dX8_init_41 : decode cX8_init 41 = .ok (.newarray .int, 2) := by decide +kernel
theorem dX8_init_43 : decode cX8_init 43 = .ok (.putfield 23, 3) := by decide +kernel
theorem dX8_init_46 : decode cX8_init 46 = .ok (.aload_n 0, 1) := by decide +kernel
theorem dX8_init_47 : decode cX8_init 47 = .ok (.getfield 7, 3) := by decide +kernel
theorem dX8_init_50 : decode cX8_init 50 = .ok (.iconst 0, 1) := by decide +kernel
theorem dX8_init_51 : decode cX8_init 51 = .ok (.bipush 45, 2) := by decide +kernel
theorem dX8_init_53 : decode cX8_init 53 = .ok (.iastore, 1) := by decide +kernel
theorem dX8_init_54 : decode cX8_init 54 = .ok (.aload_n 0, 1) := by decide +kernel
theorem dX8_init_55 : decode cX8_init 55 = .ok (.getfield 7, 3) := by decide +kernel
theorem dX8_init_58 : decode cX8_init 58 = .ok (.iconst 1, 1) := by decide +kernel
theorem dX8_init_59 : decode cX8_init 59 = .ok (.iconst 4, 1) := by decide +kernel
theorem dX8_init_60 : decode cX8_init 60 = .ok (.iastore, 1) := by decide +kernel
theorem dX8_init_61 : decode cX8_init 61 = .ok (.aload_n 0, 1) := by decide +kernel
theorem dX8_init_62 : decode cX8_init 62 = .ok (.getfield 7, 3) := by decide +kernel
theorem dX8_init_65 : decode cX8_init 65 = .ok (.iconst 2, 1) := by decide +kernel
theorem dX8_init_66 : decode cX8_init 66 = .ok (.iconst 3, 1) := by decide +kernel
theorem dX8_init_67 : decode cX8_init 67 = .ok (.iastore, 1) := by decide +kernel
theorem dX8_init_68 : decode cX8_init 68 = .ok (.aload_n 0, 1) := by decide +kernel
theorem dX8_init_69 : decode cX8_init 69 = .ok (.getfield 7, 3) := by decide +kernel
theorem dX8_init_72 : decode cX8_init 72 = .ok (.iconst 3, 1) := by decide +kernel
theorem dX8_init_73 : decode cX8_init 73 = .ok (.bipush 8, 2) := by decide +kernel
theorem dX8_init_75 : decode cX8_init 75 = .ok (.iastore, 1) := by decide +kernel
theorem dX8_init_76 : decode cX8_init 76 = .ok (.return_, 1) := by decide +kernel
theorem dX8_in_0 : decode cX8_in 0 = .ok (.iload_n 0, 1) := by decide +kernel
theorem dX8_in_1 : decode cX8_in 1 = .ok (.iload_n 1, 1) := by decide +kernel
theorem dX8_in_2 : decode cX8_in 2 = .ok (.if_icmp .lt 12, 3) := by decide +kernel
theorem dX8_in_5 : decode cX8_in 5 = .ok (.iload_n 0, 1) := by decide +kernel
theorem dX8_in_6 : decode cX8_in 6 = .ok (.iload_n 2, 1) := by decide +kernel
theorem dX8_in_7 : decode cX8_in 7 = .ok (.if_icmp .gt 7, 3) := by decide +kernel
theorem dX8_in_10 : decode cX8_in 10 = .ok (.iconst 1, 1) := by decide +kernel
theorem dX8_in_11 : decode cX8_in 11 = .ok (.goto 4, 3) := by decide +kernel
theorem dX8_in_14 : decode cX8_in 14 = .ok (.iconst 0, 1) := by decide +kernel
theorem dX8_in_15 : decode cX8_in 15 = .ok (.ireturn, 1) := by decide +kernel
theorem dX8_less_0 : decode cX8_less 0 = .ok (.iload_n 0, 1) := by decide +kernel
theorem dX8_less_1 : decode cX8_less 1 = .ok (.iload_n 1, 1) := by decide +kernel
theorem dX8_less_2 : decode cX8_less 2 = .ok (.if_icmp .ge 7, 3) := by decide +kernel
theorem dX8_less_5 : decode cX8_less 5 = .ok (.iload_n 0, 1) := by decide +kernel
theorem dX8_less_6 : decode cX8_less 6 = .ok (.goto 4, 3) := by decide +kernel
theorem dX8_less_9 : decode cX8_less 9 = .ok (.iload_n 1, 1) := by decide +kernel
theorem dX8_less_10 : decode cX8_less 10 = .ok (.ireturn, 1) := by decide +kernel
theorem dX8_size_0 : decode cX8_size 0 = .ok (.iload_n 0, 1) := by decide +kernel
theorem dX8_size_1 : decode cX8_size 1 = .ok (.ifCond .ge 8, 3) := by decide +kernel
theorem dX8_size_4 : decode cX8_size 4 = .ok (.iload_n 0, 1) := by decide +kernel
theorem dX8_size_5 : decode cX8_size 5 = .ok (.ineg, 1) := by decide +kernel
theorem dX8_size_6 : decode cX8_size 6 = .ok (.goto 4, 3) := by decide +kernel
theorem dX8_size_9 : decode cX8_size 9 = .ok (.iload_n 0, 1) := by decide +kernel
theorem dX8_size_10 : decode cX8_size 10 = .ok (.ireturn, 1) := by decide +kernel
theorem dX8_at_0 : decode cX8_at 0 = .ok (.iload_n 0, 1) := by decide +kernel
theorem dX8_at_1 : decode cX8_at 1 = .ok (.bipush 61, 2) := by decide +kernel
theorem dX8_at_3 : decode cX8_at 3 = .ok (.iadd, 1) := by decide +kernel
theorem dX8_at_4 : decode cX8_at 4 = .ok (.iconst 5, 1) := by decide +kernel
theorem dX8_at_5 : decode cX8_at 5 = .ok (.iload_n 1, 1) := by decide +kernel
theorem dX8_at_6 : decode cX8_at 6 = .ok (.imul, 1) := by decide +kernel
theorem dX8_at_7 : decode cX8_at 7 = .ok (.iadd, 1) := by decide +kernel
theorem dX8_at_8 : decode cX8_at 8 = .ok (.ireturn, 1) := by decide +kernel
theorem dX8_isPart_0 : decode cX8_isPart 0 = .ok (.iload_n 1, 1) := by decide +kernel
theorem dX8_isPart_1 : decode cX8_isPart 1 = .ok (.iconst 0, 1) := by decide +kernel
theorem dX8_isPart_2 : decode cX8_isPart 2 = .ok (.aload_n 0, 1) := by decide +kernel
theorem dX8_isPart_3 : decode cX8_isPart 3 = .ok (.getfield 7, 3) := by decide +kernel
theorem dX8_isPart_6 : decode cX8_isPart 6 = .ok (.iconst 4, 1) := by decide +kernel
theorem dX8_isPart_7 : decode cX8_isPart 7 = .ok (.iaload, 1) := by decide +kernel
theorem dX8_isPart_8 : decode cX8_isPart 8 = .ok (.iconst 1, 1) := by decide +kernel
theorem dX8_isPart_9 : decode cX8_isPart 9 = .ok (.isub, 1) := by decide +kernel
theorem dX8_isPart_10 : decode cX8_isPart 10 = .ok (.invokestatic 26, 3) := by decide +kernel
theorem dX8_isPart_13 : decode cX8_isPart 13 = .ok (.ireturn, 1) := by decide +kernel
theorem dX8_remembers_0 : decode cX8_remembers 0 = .ok (.aload_n 0, 1) := by decide +kernel
theorem dX8_remembers_1 : decode cX8_remembers 1 = .ok (.getfield 30, 3) := by decide +kernel
theorem dX8_remembers_4 : decode cX8_remembers 4 = .ok (.bipush 6, 2) := by decide +kernel
theorem dX8_remembers_6 : decode cX8_remembers 6 = .ok (.if_icmp .ne 44, 3) := by decide +kernel
theorem dX8_remembers_9 : decode cX8_remembers 9 = .ok (.iconst 0, 1) := by decide +kernel
theorem dX8_remembers_10 : decode cX8_remembers 10 = .ok (.istore_n 1, 1) := by decide +kernel
theorem dX8_remembers_11 : decode cX8_remembers 11 = .ok (.iload_n 1, 1) := by decide +kernel
theorem dX8_remembers_12 : decode cX8_remembers 12 = .ok (.sipush 805, 3) := by decide +kernel
theorem dX8_remembers_15 : decode cX8_remembers 15 = .ok (.if_icmp .ge 25, 3) := by decide +kernel
theorem dX8_remembers_18 : decode cX8_remembers 18 = .ok (.aload_n 0, 1) := by decide +kernel
theorem dX8_remembers_19 : decode cX8_remembers 19 = .ok (.getfield 13, 3) := by decide +kernel
theorem dX8_remembers_22 : decode cX8_remembers 22 = .ok (.iload_n 1, 1) := by decide +kernel
theorem dX8_remembers_23 : decode cX8_remembers 23 = .ok (.aload_n 0, 1) := by decide +kernel
theorem dX8_remembers_24 : decode cX8_remembers 24 = .ok (.getfield 13, 3) := by decide +kernel
theorem dX8_remembers_27 : decode cX8_remembers 27 = .ok (.sipush 161, 3) := by decide +kernel
theorem dX8_remembers_30 : decode cX8_remembers 30 = .ok (.iload_n 1, 1) := by decide +kernel
theorem dX8_remembers_31 : decode cX8_remembers 31 = .ok (.iadd, 1) := by decide +kernel
theorem dX8_remembers_32 : decode cX8_remembers 32 = .ok (.iaload, 1) := by decide +kernel
theorem dX8_remembers_33 : decode cX8_remembers 33 = .ok (.iastore, 1) := by decide +kernel
theorem dX8_remembers_34 : decode cX8_remembers 34 = .ok (.iinc 1 1, 3) := by decide +kernel
theorem dX8_remembers_37 : decode cX8_remembers 37 = .ok (.goto (-26), 3) := by decide +kernel
theorem dX8_remembers_40 : decode cX8_remembers 40 = .ok (.aload_n 0, 1) := by decide +kernel
theorem dX8_remembers_41 : decode cX8_remembers 41 = .ok (.dup, 1) := by decide +kernel
theorem dX8_remembers_42 : decode cX8_remembers 42 = .ok (.getfield 30, 3) := by decide +kernel
theorem dX8_remembers_45 : decode cX8_remembers 45 = .ok (.iconst 1, 1) := by decide +kernel
theorem dX8_remembers_46 : decode cX8_remembers 46 = .ok (.isub, 1) := by decide +kernel
theorem dX8_remembers_47 : decode cX8_remembers 47 = .ok (.putfield 30, 3) := by decide +kernel
theorem dX8_remembers_50 : decode cX8_remembers 50 = .ok (.iconst 0, 1) := by decide +kernel
theorem dX8_remembers_51 : decode cX8_remembers 51 = .ok (.istore_n 1, 1) := by decide +kernel
theorem dX8_remembers_52 : decode cX8_remembers 52 = .ok (.iload_n 1, 1) := by decide +kernel
theorem dX8_remembers_53 : decode cX8_remembers 53 = .ok (.sipush 161, 3) := by decide +kernel
theorem dX8_remembers_56 : decode cX8_remembers 56 = .ok (.if_icmp .ge 30, 3) := by decide +kernel
theorem dX8_remembers_59 : decode cX8_remembers 59 = .ok (.aload_n 0, 1) := by decide +kernel
theorem dX8_remembers_60 : decode cX8_remembers 60 = .ok (.getfield 13, 3) := by decide +kernel
theorem dX8_remembers_63 : decode cX8_remembers 63 = .ok (.sipush 161, 3) := by decide +kernel
theorem dX8_remembers_66 : decode cX8_remembers 66 = .ok (.aload_n 0, 1) := by decide +kernel
theorem dX8_remembers_67 : decode cX8_remembers 67 = .ok (.getfield 30, 3) := by decide +kernel
theorem dX8_remembers_70 : decode cX8_remembers 70 = .ok (.imul, 1) := by decide +kernel
theorem dX8_remembers_71 : decode cX8_remembers 71 = .ok (.iload_n 1, 1) := by decide +kernel
theorem dX8_remembers_72 : decode cX8_remembers 72 = .ok (.iadd, 1) := by decide +kernel
theorem dX8_remembers_73 : decode cX8_remembers 73 = .ok (.aload_n 0, 1) := by decide +kernel
theorem dX8_remembers_74 : decode cX8_remembers 74 = .ok (.getfield 7, 3) := by decide +kernel
theorem dX8_remembers_77 : decode cX8_remembers 77 = .ok (.iload_n 1, 1) := by decide +kernel
theorem dX8_remembers_78 : decode cX8_remembers 78 = .ok (.iaload, 1) := by decide +kernel
theorem dX8_remembers_79 : decode cX8_remembers 79 = .ok (.iastore, 1) := by decide +kernel
theorem dX8_remembers_80 : decode cX8_remembers 80 = .ok (.iinc 1 1, 3) := by decide +kernel
theorem dX8_remembers_83 : decode cX8_remembers 83 = .ok (.goto (-31), 3) := by decide +kernel
theorem dX8_remembers_86 : decode cX8_remembers 86 = .ok (.aload_n 0, 1) := by decide +kernel
theorem dX8_remembers_87 : decode cX8_remembers 87 = .ok (.dup, 1) := by decide +kernel
theorem dX8_remembers_88 : decode cX8_remembers 88 = .ok (.getfield 30, 3) := by decide +kernel
theorem dX8_remembers_91 : decode cX8_remembers 91 = .ok (.iconst 1, 1) := by decide +kernel
theorem dX8_remembers_92 : decode cX8_remembers 92 = .ok (.iadd, 1) := by decide +kernel
theorem dX8_remembers_93 : decode cX8_remembers 93 = .ok (.putfield 30, 3) := by decide +kernel
theorem dX8_remembers_96 : decode cX8_remembers 96 = .ok (.return_, 1) := by decide +kernel
theorem dX8_copies_0 : decode cX8_copies 0 = .ok (.iconst 0, 1) := by decide +kernel
theorem dX8_copies_1 : decode cX8_copies 1 = .ok (.istore_n 1, 1) := by decide +kernel
theorem dX8_copies_2 : decode cX8_copies 2 = .ok (.iload_n 1, 1) := by decide +kernel
theorem dX8_copies_3 : decode cX8_copies 3 = .ok (.sipush 161, 3) := by decide +kernel
theorem dX8_copies_6 : decode cX8_copies 6 = .ok (.if_icmp .ge 25, 3) := by decide +kernel
theorem dX8_copies_9 : decode cX8_copies 9 = .ok (.aload_n 0, 1) := by decide +kernel
theorem dX8_copies_10 : decode cX8_copies 10 = .ok (.getfield 7, 3) := by decide +kernel
theorem dX8_copies_13 : decode cX8_copies 13 = .ok (.sipush 161, 3) := by decide +kernel
theorem dX8_copies_16 : decode cX8_copies 16 = .ok (.iload_n 1, 1) := by decide +kernel
theorem dX8_copies_17 : decode cX8_copies 17 = .ok (.iadd, 1) := by decide +kernel
theorem dX8_copies_18 : decode cX8_copies 18 = .ok (.aload_n 0, 1) := by decide +kernel
theorem dX8_copies_19 : decode cX8_copies 19 = .ok (.getfield 7, 3) := by decide +kernel
theorem dX8_copies_22 : decode cX8_copies 22 = .ok (.iload_n 1, 1) := by decide +kernel
theorem dX8_copies_23 : decode cX8_copies 23 = .ok (.iaload, 1) := by decide +kernel
theorem dX8_copies_24 : decode cX8_copies 24 = .ok (.iastore, 1) := by decide +kernel
theorem dX8_copies_25 : decode cX8_copies 25 = .ok (.iinc 1 1, 3) := by decide +kernel
theorem dX8_copies_28 : decode cX8_copies 28 = .ok (.goto (-26), 3) := by decide +kernel
theorem dX8_copies_31 : decode cX8_copies 31 = .ok (.return_, 1) := by decide +kernel
theorem dX8_drops_0 : decode cX8_drops 0 = .ok (.aload_n 0, 1) := by decide +kernel
theorem dX8_drops_1 : decode cX8_drops 1 = .ok (.getfield 7, 3) := by decide +kernel
theorem dX8_drops_4 : decode cX8_drops 4 = .ok (.iload_n 1, 1) := by decide +kernel
theorem dX8_drops_5 : decode cX8_drops 5 = .ok (.bipush 7, 2) := by decide +kernel
theorem dX8_drops_7 : decode cX8_drops 7 = .ok (.iadd, 1) := by decide +kernel
theorem dX8_drops_8 : decode cX8_drops 8 = .ok (.aload_n 0, 1) := by decide +kernel
theorem dX8_drops_9 : decode cX8_drops 9 = .ok (.getfield 7, 3) := by decide +kernel
theorem dX8_drops_12 : decode cX8_drops 12 = .ok (.iload_n 1, 1) := by decide +kernel
theorem dX8_drops_13 : decode cX8_drops 13 = .ok (.bipush 7, 2) := by decide +kernel
theorem dX8_drops_15 : decode cX8_drops 15 = .ok (.iadd, 1) := by decide +kernel
theorem dX8_drops_16 : decode cX8_drops 16 = .ok (.iaload, 1) := by decide +kernel
theorem dX8_drops_17 : decode cX8_drops 17 = .ok (.iconst 4, 1) := by decide +kernel
theorem dX8_drops_18 : decode cX8_drops 18 = .ok (.iload_n 2, 1) := by decide +kernel
theorem dX8_drops_19 : decode cX8_drops 19 = .ok (.imul, 1) := by decide +kernel
theorem dX8_drops_20 : decode cX8_drops 20 = .ok (.iadd, 1) := by decide +kernel
theorem dX8_drops_21 : decode cX8_drops 21 = .ok (.bipush 99, 2) := by decide +kernel
theorem dX8_drops_23 : decode cX8_drops 23 = .ok (.invokestatic 34, 3) := by decide +kernel
theorem dX8_drops_26 : decode cX8_drops 26 = .ok (.iastore, 1) := by decide +kernel
theorem dX8_drops_27 : decode cX8_drops 27 = .ok (.aload_n 0, 1) := by decide +kernel
theorem dX8_drops_28 : decode cX8_drops 28 = .ok (.getfield 7, 3) := by decide +kernel
theorem dX8_drops_31 : decode cX8_drops 31 = .ok (.iload_n 1, 1) := by decide +kernel
theorem dX8_drops_32 : decode cX8_drops 32 = .ok (.bipush 9, 2) := by decide +kernel
theorem dX8_drops_34 : decode cX8_drops 34 = .ok (.iadd, 1) := by decide +kernel
theorem dX8_drops_35 : decode cX8_drops 35 = .ok (.aload_n 0, 1) := by decide +kernel
theorem dX8_drops_36 : decode cX8_drops 36 = .ok (.getfield 7, 3) := by decide +kernel
theorem dX8_drops_39 : decode cX8_drops 39 = .ok (.iload_n 1, 1) := by decide +kernel
theorem dX8_drops_40 : decode cX8_drops 40 = .ok (.bipush 9, 2) := by decide +kernel
theorem dX8_drops_42 : decode cX8_drops 42 = .ok (.iadd, 1) := by decide +kernel
theorem dX8_drops_43 : decode cX8_drops 43 = .ok (.iaload, 1) := by decide +kernel
theorem dX8_drops_44 : decode cX8_drops 44 = .ok (.aload_n 0, 1) := by decide +kernel
theorem dX8_drops_45 : decode cX8_drops 45 = .ok (.getfield 7, 3) := by decide +kernel
theorem dX8_drops_48 : decode cX8_drops 48 = .ok (.iload_n 1, 1) := by decide +kernel
theorem dX8_drops_49 : decode cX8_drops 49 = .ok (.iconst 1, 1) := by decide +kernel
theorem dX8_drops_50 : decode cX8_drops 50 = .ok (.iadd, 1) := by decide +kernel
theorem dX8_drops_51 : decode cX8_drops 51 = .ok (.iaload, 1) := by decide +kernel
theorem dX8_drops_52 : decode cX8_drops 52 = .ok (.iload_n 2, 1) := by decide +kernel
theorem dX8_drops_53 : decode cX8_drops 53 = .ok (.imul, 1) := by decide +kernel
theorem dX8_drops_54 : decode cX8_drops 54 = .ok (.iadd, 1) := by decide +kernel
theorem dX8_drops_55 : decode cX8_drops 55 = .ok (.bipush 99, 2) := by decide +kernel
theorem dX8_drops_57 : decode cX8_drops 57 = .ok (.invokestatic 34, 3) := by decide +kernel
theorem dX8_drops_60 : decode cX8_drops 60 = .ok (.iastore, 1) := by decide +kernel
theorem dX8_drops_61 : decode cX8_drops 61 = .ok (.aload_n 0, 1) := by decide +kernel
theorem dX8_drops_62 : decode cX8_drops 62 = .ok (.getfield 7, 3) := by decide +kernel
theorem dX8_drops_65 : decode cX8_drops 65 = .ok (.iload_n 1, 1) := by decide +kernel
theorem dX8_drops_66 : decode cX8_drops 66 = .ok (.bipush 9, 2) := by decide +kernel
theorem dX8_drops_68 : decode cX8_drops 68 = .ok (.iadd, 1) := by decide +kernel
theorem dX8_drops_69 : decode cX8_drops 69 = .ok (.iaload, 1) := by decide +kernel
theorem dX8_drops_70 : decode cX8_drops 70 = .ok (.iconst 4, 1) := by decide +kernel
theorem dX8_drops_71 : decode cX8_drops 71 = .ok (.idiv, 1) := by decide +kernel
theorem dX8_drops_72 : decode cX8_drops 72 = .ok (.istore_n 3, 1) := by decide +kernel
theorem dX8_drops_73 : decode cX8_drops 73 = .ok (.aload_n 0, 1) := by decide +kernel
theorem dX8_drops_74 : decode cX8_drops 74 = .ok (.getfield 7, 3) := by decide +kernel
theorem dX8_drops_77 : decode cX8_drops 77 = .ok (.iload_n 1, 1) := by decide +kernel
theorem dX8_drops_78 : decode cX8_drops 78 = .ok (.bipush 8, 2) := by decide +kernel
theorem dX8_drops_80 : decode cX8_drops 80 = .ok (.iadd, 1) := by decide +kernel
theorem dX8_drops_81 : decode cX8_drops 81 = .ok (.dup2, 1) := by decide +kernel
theorem dX8_drops_82 : decode cX8_drops 82 = .ok (.iaload, 1) := by decide +kernel
theorem dX8_drops_83 : decode cX8_drops 83 = .ok (.aload_n 0, 1) := by decide +kernel
theorem dX8_drops_84 : decode cX8_drops 84 = .ok (.getfield 7, 3) := by decide +kernel
theorem dX8_drops_87 : decode cX8_drops 87 = .ok (.iload_n 1, 1) := by decide +kernel
theorem dX8_drops_88 : decode cX8_drops 88 = .ok (.bipush 10, 2) := by decide +kernel
theorem dX8_drops_90 : decode cX8_drops 90 = .ok (.iadd, 1) := by decide +kernel
theorem dX8_drops_91 : decode cX8_drops 91 = .ok (.iaload, 1) := by decide +kernel
theorem dX8_drops_92 : decode cX8_drops 92 = .ok (.iconst 2, 1) := by decide +kernel
theorem dX8_drops_93 : decode cX8_drops 93 = .ok (.irem, 1) := by decide +kernel
theorem dX8_drops_94 : decode cX8_drops 94 = .ok (.ifCond .ne 7, 3) := by decide +kernel
theorem dX8_drops_97 : decode cX8_drops 97 = .ok (.iload_n 3, 1) := by decide +kernel
theorem dX8_drops_98 : decode cX8_drops 98 = .ok (.goto 5, 3) := by decide +kernel
theorem dX8_drops_101 : decode cX8_drops 101 = .ok (.iload_n 3, 1) := by decide +kernel
theorem dX8_drops_102 : decode cX8_drops 102 = .ok (.ineg, 1) := by decide +kernel
theorem dX8_drops_103 : decode cX8_drops 103 = .ok (.iadd, 1) := by decide +kernel
theorem dX8_drops_104 : decode cX8_drops 104 = .ok (.iastore, 1) := by decide +kernel
theorem dX8_drops_105 : decode cX8_drops 105 = .ok (.return_, 1) := by decide +kernel
theorem dX8_lands_0 : decode cX8_lands 0 = .ok (.iconst 0, 1) := by decide +kernel
theorem dX8_lands_1 : decode cX8_lands 1 = .ok (.istore_n 3, 1) := by decide +kernel
theorem dX8_lands_2 : decode cX8_lands 2 = .ok (.iload_n 3, 1) := by decide +kernel
theorem dX8_lands_3 : decode cX8_lands 3 = .ok (.iload_n 2, 1) := by decide +kernel
theorem dX8_lands_4 : decode cX8_lands 4 = .ok (.if_icmp .ge 143, 3) := by decide +kernel
theorem dX8_lands_7 : decode cX8_lands 7 = .ok (.aload_n 0, 1) := by decide +kernel
theorem dX8_lands_8 : decode cX8_lands 8 = .ok (.getfield 7, 3) := by decide +kernel
theorem dX8_lands_11 : decode cX8_lands 11 = .ok (.iload_n 1, 1) := by decide +kernel
theorem dX8_lands_12 : decode cX8_lands 12 = .ok (.bipush 7, 2) := by decide +kernel
theorem dX8_lands_14 : decode cX8_lands 14 = .ok (.iadd, 1) := by decide +kernel
theorem dX8_lands_15 : decode cX8_lands 15 = .ok (.aload_n 0, 1) := by decide +kernel
theorem dX8_lands_16 : decode cX8_lands 16 = .ok (.getfield 7, 3) := by decide +kernel
theorem dX8_lands_19 : decode cX8_lands 19 = .ok (.iload_n 1, 1) := by decide +kernel
theorem dX8_lands_20 : decode cX8_lands 20 = .ok (.bipush 7, 2) := by decide +kernel
theorem dX8_lands_22 : decode cX8_lands 22 = .ok (.iadd, 1) := by decide +kernel
theorem dX8_lands_23 : decode cX8_lands 23 = .ok (.iaload, 1) := by decide +kernel
theorem dX8_lands_24 : decode cX8_lands 24 = .ok (.aload_n 0, 1) := by decide +kernel
theorem dX8_lands_25 : decode cX8_lands 25 = .ok (.getfield 7, 3) := by decide +kernel
theorem dX8_lands_28 : decode cX8_lands 28 = .ok (.iload_n 1, 1) := by decide +kernel
theorem dX8_lands_29 : decode cX8_lands 29 = .ok (.iconst 2, 1) := by decide +kernel
theorem dX8_lands_30 : decode cX8_lands 30 = .ok (.iadd, 1) := by decide +kernel
theorem dX8_lands_31 : decode cX8_lands 31 = .ok (.iaload, 1) := by decide +kernel
theorem dX8_lands_32 : decode cX8_lands 32 = .ok (.if_icmp .ge 7, 3) := by decide +kernel
theorem dX8_lands_35 : decode cX8_lands 35 = .ok (.iconst 0, 1) := by decide +kernel
theorem dX8_lands_36 : decode cX8_lands 36 = .ok (.goto 21, 3) := by decide +kernel
theorem dX8_lands_39 : decode cX8_lands 39 = .ok (.aload_n 0, 1) := by decide +kernel
theorem dX8_lands_40 : decode cX8_lands 40 = .ok (.getfield 7, 3) := by decide +kernel
theorem dX8_lands_43 : decode cX8_lands 43 = .ok (.iload_n 1, 1) := by decide +kernel
theorem dX8_lands_44 : decode cX8_lands 44 = .ok (.bipush 7, 2) := by decide +kernel
theorem dX8_lands_46 : decode cX8_lands 46 = .ok (.iadd, 1) := by decide +kernel
theorem dX8_lands_47 : decode cX8_lands 47 = .ok (.iaload, 1) := by decide +kernel
theorem dX8_lands_48 : decode cX8_lands 48 = .ok (.aload_n 0, 1) := by decide +kernel
theorem dX8_lands_49 : decode cX8_lands 49 = .ok (.getfield 7, 3) := by decide +kernel
theorem dX8_lands_52 : decode cX8_lands 52 = .ok (.iload_n 1, 1) := by decide +kernel
theorem dX8_lands_53 : decode cX8_lands 53 = .ok (.iconst 2, 1) := by decide +kernel
theorem dX8_lands_54 : decode cX8_lands 54 = .ok (.iadd, 1) := by decide +kernel
theorem dX8_lands_55 : decode cX8_lands 55 = .ok (.iaload, 1) := by decide +kernel
theorem dX8_lands_56 : decode cX8_lands 56 = .ok (.isub, 1) := by decide +kernel
theorem dX8_lands_57 : decode cX8_lands 57 = .ok (.iastore, 1) := by decide +kernel
theorem dX8_lands_58 : decode cX8_lands 58 = .ok (.aload_n 0, 1) := by decide +kernel
theorem dX8_lands_59 : decode cX8_lands 59 = .ok (.getfield 7, 3) := by decide +kernel
theorem dX8_lands_62 : decode cX8_lands 62 = .ok (.iload_n 1, 1) := by decide +kernel
theorem dX8_lands_63 : decode cX8_lands 63 = .ok (.bipush 9, 2) := by decide +kernel
theorem dX8_lands_65 : decode cX8_lands 65 = .ok (.iadd, 1) := by decide +kernel
theorem dX8_lands_66 : decode cX8_lands 66 = .ok (.dup2, 1) := by decide +kernel
theorem dX8_lands_67 : decode cX8_lands 67 = .ok (.iaload, 1) := by decide +kernel
theorem dX8_lands_68 : decode cX8_lands 68 = .ok (.aload_n 0, 1) := by decide +kernel
theorem dX8_lands_69 : decode cX8_lands 69 = .ok (.getfield 7, 3) := by decide +kernel
theorem dX8_lands_72 : decode cX8_lands 72 = .ok (.iload_n 1, 1) := by decide +kernel
theorem dX8_lands_73 : decode cX8_lands 73 = .ok (.bipush 9, 2) := by decide +kernel
theorem dX8_lands_75 : decode cX8_lands 75 = .ok (.iadd, 1) := by decide +kernel
theorem dX8_lands_76 : decode cX8_lands 76 = .ok (.iaload, 1) := by decide +kernel
theorem dX8_lands_77 : decode cX8_lands 77 = .ok (.iconst 4, 1) := by decide +kernel
theorem dX8_lands_78 : decode cX8_lands 78 = .ok (.idiv, 1) := by decide +kernel
theorem dX8_lands_79 : decode cX8_lands 79 = .ok (.isub, 1) := by decide +kernel
theorem dX8_lands_80 : decode cX8_lands 80 = .ok (.iastore, 1) := by decide +kernel
theorem dX8_lands_81 : decode cX8_lands 81 = .ok (.aload_n 0, 1) := by decide +kernel
theorem dX8_lands_82 : decode cX8_lands 82 = .ok (.getfield 7, 3) := by decide +kernel
theorem dX8_lands_85 : decode cX8_lands 85 = .ok (.iload_n 1, 1) := by decide +kernel
theorem dX8_lands_86 : decode cX8_lands 86 = .ok (.bipush 8, 2) := by decide +kernel
theorem dX8_lands_88 : decode cX8_lands 88 = .ok (.iadd, 1) := by decide +kernel
theorem dX8_lands_89 : decode cX8_lands 89 = .ok (.iaload, 1) := by decide +kernel
theorem dX8_lands_90 : decode cX8_lands 90 = .ok (.istore 4, 2) := by decide +kernel
theorem dX8_lands_92 : decode cX8_lands 92 = .ok (.aload_n 0, 1) := by decide +kernel
theorem dX8_lands_93 : decode cX8_lands 93 = .ok (.getfield 7, 3) := by decide +kernel
theorem dX8_lands_96 : decode cX8_lands 96 = .ok (.iload_n 1, 1) := by decide +kernel
theorem dX8_lands_97 : decode cX8_lands 97 = .ok (.bipush 7, 2) := by decide +kernel
theorem dX8_lands_99 : decode cX8_lands 99 = .ok (.iadd, 1) := by decide +kernel
theorem dX8_lands_100 : decode cX8_lands 100 = .ok (.iaload, 1) := by decide +kernel
theorem dX8_lands_101 : decode cX8_lands 101 = .ok (.bipush 20, 2) := by decide +kernel
theorem dX8_lands_103 : decode cX8_lands 103 = .ok (.idiv, 1) := by decide +kernel
theorem dX8_lands_104 : decode cX8_lands 104 = .ok (.iload 4, 2) := by decide +kernel
theorem dX8_lands_106 : decode cX8_lands 106 = .ok (.invokestatic 38, 3) := by decide +kernel
theorem dX8_lands_109 : decode cX8_lands 109 = .ok (.invokestatic 34, 3) := by decide +kernel
theorem dX8_lands_112 : decode cX8_lands 112 = .ok (.istore 5, 2) := by decide +kernel
theorem dX8_lands_114 : decode cX8_lands 114 = .ok (.aload_n 0, 1) := by decide +kernel
theorem dX8_lands_115 : decode cX8_lands 115 = .ok (.getfield 7, 3) := by decide +kernel
theorem dX8_lands_118 : decode cX8_lands 118 = .ok (.iload_n 1, 1) := by decide +kernel
theorem dX8_lands_119 : decode cX8_lands 119 = .ok (.bipush 8, 2) := by decide +kernel
theorem dX8_lands_121 : decode cX8_lands 121 = .ok (.iadd, 1) := by decide +kernel
theorem dX8_lands_122 : decode cX8_lands 122 = .ok (.iload 4, 2) := by decide +kernel
theorem dX8_lands_124 : decode cX8_lands 124 = .ok (.ifCond .ge 11, 3) := by decide +kernel
theorem dX8_lands_127 : decode cX8_lands 127 = .ok (.iload 4, 2) := by decide +kernel
theorem dX8_lands_129 : decode cX8_lands 129 = .ok (.iload 5, 2) := by decide +kernel
theorem dX8_lands_131 : decode cX8_lands 131 = .ok (.iadd, 1) := by decide +kernel
theorem dX8_lands_132 : decode cX8_lands 132 = .ok (.goto 8, 3) := by decide +kernel
theorem dX8_lands_135 : decode cX8_lands 135 = .ok (.iload 4, 2) := by decide +kernel
theorem dX8_lands_137 : decode cX8_lands 137 = .ok (.iload 5, 2) := by decide +kernel
theorem dX8_lands_139 : decode cX8_lands 139 = .ok (.isub, 1) := by decide +kernel
theorem dX8_lands_140 : decode cX8_lands 140 = .ok (.iastore, 1) := by decide +kernel
theorem dX8_lands_141 : decode cX8_lands 141 = .ok (.iinc 3 1, 3) := by decide +kernel
theorem dX8_lands_144 : decode cX8_lands 144 = .ok (.goto (-142), 3) := by decide +kernel
theorem dX8_lands_147 : decode cX8_lands 147 = .ok (.return_, 1) := by decide +kernel
theorem dX8_passesPart_0 : decode cX8_passesPart 0 = .ok (.iload_n 1, 1) := by decide +kernel
theorem dX8_passesPart_1 : decode cX8_passesPart 1 = .ok (.aload_n 0, 1) := by decide +kernel
theorem dX8_passesPart_2 : decode cX8_passesPart 2 = .ok (.getfield 7, 3) := by decide +kernel
theorem dX8_passesPart_5 : decode cX8_passesPart 5 = .ok (.iload_n 1, 1) := by decide +kernel
theorem dX8_passesPart_6 : decode cX8_passesPart 6 = .ok (.bipush 10, 2) := by decide +kernel
theorem dX8_passesPart_8 : decode cX8_passesPart 8 = .ok (.iadd, 1) := by decide +kernel
theorem dX8_passesPart_9 : decode cX8_passesPart 9 = .ok (.iaload, 1) := by decide +kernel
theorem dX8_passesPart_10 : decode cX8_passesPart 10 = .ok (.invokestatic 42, 3) := by decide +kernel
theorem dX8_passesPart_13 : decode cX8_passesPart 13 = .ok (.istore_n 2, 1) := by decide +kernel
theorem dX8_passesPart_14 : decode cX8_passesPart 14 = .ok (.aload_n 0, 1) := by decide +kernel
theorem dX8_passesPart_15 : decode cX8_passesPart 15 = .ok (.getfield 7, 3) := by decide +kernel
theorem dX8_passesPart_18 : decode cX8_passesPart 18 = .ok (.iload_n 2, 1) := by decide +kernel
theorem dX8_passesPart_19 : decode cX8_passesPart 19 = .ok (.iconst 1, 1) := by decide +kernel
theorem dX8_passesPart_20 : decode cX8_passesPart 20 = .ok (.iadd, 1) := by decide +kernel
theorem dX8_passesPart_21 : decode cX8_passesPart 21 = .ok (.iaload, 1) := by decide +kernel
theorem dX8_passesPart_22 : decode cX8_passesPart 22 = .ok (.istore_n 3, 1) := by decide +kernel
theorem dX8_passesPart_23 : decode cX8_passesPart 23 = .ok (.aload_n 0, 1) := by decide +kernel
theorem dX8_passesPart_24 : decode cX8_passesPart 24 = .ok (.getfield 7, 3) := by decide +kernel
theorem dX8_passesPart_27 : decode cX8_passesPart 27 = .ok (.iload_n 2, 1) := by decide +kernel
theorem dX8_passesPart_28 : decode cX8_passesPart 28 = .ok (.iaload, 1) := by decide +kernel
theorem dX8_passesPart_29 : decode cX8_passesPart 29 = .ok (.ifCond .ne 12, 3) := by decide +kernel
theorem dX8_passesPart_32 : decode cX8_passesPart 32 = .ok (.aload_n 0, 1) := by decide +kernel
theorem dX8_passesPart_33 : decode cX8_passesPart 33 = .ok (.iload_n 1, 1) := by decide +kernel
theorem dX8_passesPart_34 : decode cX8_passesPart 34 = .ok (.iload_n 3, 1) := by decide +kernel
theorem dX8_passesPart_35 : decode cX8_passesPart 35 = .ok (.invokevirtual 45, 3) := by decide +kernel
theorem dX8_passesPart_38 : decode cX8_passesPart 38 = .ok (.goto 60, 3) := by decide +kernel
theorem dX8_passesPart_41 : decode cX8_passesPart 41 = .ok (.aload_n 0, 1) := by decide +kernel
theorem dX8_passesPart_42 : decode cX8_passesPart 42 = .ok (.getfield 7, 3) := by decide +kernel
theorem dX8_passesPart_45 : decode cX8_passesPart 45 = .ok (.iload_n 2, 1) := by decide +kernel
theorem dX8_passesPart_46 : decode cX8_passesPart 46 = .ok (.iaload, 1) := by decide +kernel
theorem dX8_passesPart_47 : decode cX8_passesPart 47 = .ok (.iconst 1, 1) := by decide +kernel
theorem dX8_passesPart_48 : decode cX8_passesPart 48 = .ok (.if_icmp .ne 23, 3) := by decide +kernel
theorem dX8_passesPart_51 : decode cX8_passesPart 51 = .ok (.aload_n 0, 1) := by decide +kernel
theorem dX8_passesPart_52 : decode cX8_passesPart 52 = .ok (.iload_n 1, 1) := by decide +kernel
theorem dX8_passesPart_53 : decode cX8_passesPart 53 = .ok (.iload_n 3, 1) := by decide +kernel
theorem dX8_passesPart_54 : decode cX8_passesPart 54 = .ok (.invokevirtual 49, 3) := by decide +kernel
theorem dX8_passesPart_57 : decode cX8_passesPart 57 = .ok (.aload_n 0, 1) := by decide +kernel
theorem dX8_passesPart_58 : decode cX8_passesPart 58 = .ok (.getfield 7, 3) := by decide +kernel
theorem dX8_passesPart_61 : decode cX8_passesPart 61 = .ok (.iload_n 1, 1) := by decide +kernel
theorem dX8_passesPart_62 : decode cX8_passesPart 62 = .ok (.bipush 7, 2) := by decide +kernel
theorem dX8_passesPart_64 : decode cX8_passesPart 64 = .ok (.iadd, 1) := by decide +kernel
theorem dX8_passesPart_65 : decode cX8_passesPart 65 = .ok (.iaload, 1) := by decide +kernel
theorem dX8_passesPart_66 : decode cX8_passesPart 66 = .ok (.ifCond .ne 32, 3) := by decide +kernel
theorem dX8_passesPart_69 : decode cX8_passesPart 69 = .ok (.iconst 3, 1) := by decide +kernel
theorem dX8_passesPart_70 : decode cX8_passesPart 70 = .ok (.ireturn, 1) := by decide +kernel
theorem dX8_passesPart_71 : decode cX8_passesPart 71 = .ok (.aload_n 0, 1) := by decide +kernel
theorem dX8_passesPart_72 : decode cX8_passesPart 72 = .ok (.getfield 7, 3) := by decide +kernel
theorem dX8_passesPart_75 : decode cX8_passesPart 75 = .ok (.iload_n 1, 1) := by decide +kernel
theorem dX8_passesPart_76 : decode cX8_passesPart 76 = .ok (.bipush 6, 2) := by decide +kernel
theorem dX8_passesPart_78 : decode cX8_passesPart 78 = .ok (.iadd, 1) := by decide +kernel
theorem dX8_passesPart_79 : decode cX8_passesPart 79 = .ok (.iaload, 1) := by decide +kernel
theorem dX8_passesPart_80 : decode cX8_passesPart 80 = .ok (.aload_n 0, 1) := by decide +kernel
theorem dX8_passesPart_81 : decode cX8_passesPart 81 = .ok (.getfield 7, 3) := by decide +kernel
theorem dX8_passesPart_84 : decode cX8_passesPart 84 = .ok (.iload_n 1, 1) := by decide +kernel
theorem dX8_passesPart_85 : decode cX8_passesPart 85 = .ok (.bipush 9, 2) := by decide +kernel
theorem dX8_passesPart_87 : decode cX8_passesPart 87 = .ok (.iadd, 1) := by decide +kernel
theorem dX8_passesPart_88 : decode cX8_passesPart 88 = .ok (.iaload, 1) := by decide +kernel
theorem dX8_passesPart_89 : decode cX8_passesPart 89 = .ok (.iconst 4, 1) := by decide +kernel
theorem dX8_passesPart_90 : decode cX8_passesPart 90 = .ok (.idiv, 1) := by decide +kernel
theorem dX8_passesPart_91 : decode cX8_passesPart 91 = .ok (.iadd, 1) := by decide +kernel
theorem dX8_passesPart_92 : decode cX8_passesPart 92 = .ok (.iload_n 3, 1) := by decide +kernel
theorem dX8_passesPart_93 : decode cX8_passesPart 93 = .ok (.if_icmp .le 5, 3) := by decide +kernel
theorem dX8_passesPart_96 : decode cX8_passesPart 96 = .ok (.iconst 2, 1) := by decide +kernel
theorem dX8_passesPart_97 : decode cX8_passesPart 97 = .ok (.ireturn, 1) := by decide +kernel
theorem dX8_passesPart_98 : decode cX8_passesPart 98 = .ok (.aload_n 0, 1) := by decide +kernel
theorem dX8_passesPart_99 : decode cX8_passesPart 99 = .ok (.getfield 7, 3) := by decide +kernel
theorem dX8_passesPart_102 : decode cX8_passesPart 102 = .ok (.iload_n 1, 1) := by decide +kernel
theorem dX8_passesPart_103 : decode cX8_passesPart 103 = .ok (.bipush 8, 2) := by decide +kernel
theorem dX8_passesPart_105 : decode cX8_passesPart 105 = .ok (.iadd, 1) := by decide +kernel
theorem dX8_passesPart_106 : decode cX8_passesPart 106 = .ok (.iaload, 1) := by decide +kernel
theorem dX8_passesPart_107 : decode cX8_passesPart 107 = .ok (.invokestatic 38, 3) := by decide +kernel
theorem dX8_passesPart_110 : decode cX8_passesPart 110 = .ok (.istore 4, 2) := by decide +kernel
theorem dX8_passesPart_112 : decode cX8_passesPart 112 = .ok (.aload_n 0, 1) := by decide +kernel
theorem dX8_passesPart_113 : decode cX8_passesPart 113 = .ok (.iload 4, 2) := by decide +kernel
theorem dX8_passesPart_115 : decode cX8_passesPart 115 = .ok (.aload_n 0, 1) := by decide +kernel
theorem dX8_passesPart_116 : decode cX8_passesPart 116 = .ok (.getfield 52, 3) := by decide +kernel
theorem dX8_passesPart_119 : decode cX8_passesPart 119 = .ok (.if_icmp .le 8, 3) := by decide +kernel
theorem dX8_passesPart_122 : decode cX8_passesPart 122 = .ok (.iload 4, 2) := by decide +kernel
theorem dX8_passesPart_124 : decode cX8_passesPart 124 = .ok (.goto 7, 3) := by decide +kernel
theorem dX8_passesPart_127 : decode cX8_passesPart 127 = .ok (.aload_n 0, 1) := by decide +kernel
theorem dX8_passesPart_128 : decode cX8_passesPart 128 = .ok (.getfield 52, 3) := by decide +kernel
theorem dX8_passesPart_131 : decode cX8_passesPart 131 = .ok (.putfield 52, 3) := by decide +kernel
theorem dX8_passesPart_134 : decode cX8_passesPart 134 = .ok (.iload 4, 2) := by decide +kernel
theorem dX8_passesPart_136 : decode cX8_passesPart 136 = .ok (.aload_n 0, 1) := by decide +kernel
theorem dX8_passesPart_137 : decode cX8_passesPart 137 = .ok (.getfield 7, 3) := by decide +kernel
theorem dX8_passesPart_140 : decode cX8_passesPart 140 = .ok (.iload_n 1, 1) := by decide +kernel
theorem dX8_passesPart_141 : decode cX8_passesPart 141 = .ok (.iconst 0, 1) := by decide +kernel
theorem dX8_passesPart_142 : decode cX8_passesPart 142 = .ok (.iadd, 1) := by decide +kernel
theorem dX8_passesPart_143 : decode cX8_passesPart 143 = .ok (.iaload, 1) := by decide +kernel
theorem dX8_passesPart_144 : decode cX8_passesPart 144 = .ok (.if_icmp .lt 5, 3) := by decide +kernel
theorem dX8_passesPart_147 : decode cX8_passesPart 147 = .ok (.iconst 1, 1) := by decide +kernel
theorem dX8_passesPart_148 : decode cX8_passesPart 148 = .ok (.ireturn, 1) := by decide +kernel
theorem dX8_passesPart_149 : decode cX8_passesPart 149 = .ok (.aload_n 0, 1) := by decide +kernel
theorem dX8_passesPart_150 : decode cX8_passesPart 150 = .ok (.getfield 7, 3) := by decide +kernel
theorem dX8_passesPart_153 : decode cX8_passesPart 153 = .ok (.iload_n 1, 1) := by decide +kernel
theorem dX8_passesPart_154 : decode cX8_passesPart 154 = .ok (.bipush 10, 2) := by decide +kernel
theorem dX8_passesPart_156 : decode cX8_passesPart 156 = .ok (.iadd, 1) := by decide +kernel
theorem dX8_passesPart_157 : decode cX8_passesPart 157 = .ok (.dup2, 1) := by decide +kernel
theorem dX8_passesPart_158 : decode cX8_passesPart 158 = .ok (.iaload, 1) := by decide +kernel
theorem dX8_passesPart_159 : decode cX8_passesPart 159 = .ok (.iconst 1, 1) := by decide +kernel
theorem dX8_passesPart_160 : decode cX8_passesPart 160 = .ok (.iadd, 1) := by decide +kernel
theorem dX8_passesPart_161 : decode cX8_passesPart 161 = .ok (.iastore, 1) := by decide +kernel
theorem dX8_passesPart_162 : decode cX8_passesPart 162 = .ok (.iconst 0, 1) := by decide +kernel
theorem dX8_passesPart_163 : decode cX8_passesPart 163 = .ok (.ireturn, 1) := by decide +kernel
theorem dX8_lists_0 : decode cX8_lists 0 = .ok (.bipush 39, 2) := by decide +kernel
theorem dX8_lists_2 : decode cX8_lists 2 = .ok (.istore_n 2, 1) := by decide +kernel
theorem dX8_lists_3 : decode cX8_lists 3 = .ok (.iload_n 2, 1) := by decide +kernel
theorem dX8_lists_4 : decode cX8_lists 4 = .ok (.iconst 4, 1) := by decide +kernel
theorem dX8_lists_5 : decode cX8_lists 5 = .ok (.if_icmp .lt 33, 3) := by decide +kernel
theorem dX8_lists_8 : decode cX8_lists 8 = .ok (.aload_n 0, 1) := by decide +kernel
theorem dX8_lists_9 : decode cX8_lists 9 = .ok (.getfield 7, 3) := by decide +kernel
theorem dX8_lists_12 : decode cX8_lists 12 = .ok (.iload_n 1, 1) := by decide +kernel
theorem dX8_lists_13 : decode cX8_lists 13 = .ok (.bipush 21, 2) := by decide +kernel
theorem dX8_lists_15 : decode cX8_lists 15 = .ok (.iadd, 1) := by decide +kernel
theorem dX8_lists_16 : decode cX8_lists 16 = .ok (.iload_n 2, 1) := by decide +kernel
theorem dX8_lists_17 : decode cX8_lists 17 = .ok (.iadd, 1) := by decide +kernel
theorem dX8_lists_18 : decode cX8_lists 18 = .ok (.aload_n 0, 1) := by decide +kernel
theorem dX8_lists_19 : decode cX8_lists 19 = .ok (.getfield 7, 3) := by decide +kernel
theorem dX8_lists_22 : decode cX8_lists 22 = .ok (.iload_n 1, 1) := by decide +kernel
theorem dX8_lists_23 : decode cX8_lists 23 = .ok (.bipush 21, 2) := by decide +kernel
theorem dX8_lists_25 : decode cX8_lists 25 = .ok (.iadd, 1) := by decide +kernel
theorem dX8_lists_26 : decode cX8_lists 26 = .ok (.iload_n 2, 1) := by decide +kernel
theorem dX8_lists_27 : decode cX8_lists 27 = .ok (.iadd, 1) := by decide +kernel
theorem dX8_lists_28 : decode cX8_lists 28 = .ok (.iconst 4, 1) := by decide +kernel
theorem dX8_lists_29 : decode cX8_lists 29 = .ok (.isub, 1) := by decide +kernel
theorem dX8_lists_30 : decode cX8_lists 30 = .ok (.iaload, 1) := by decide +kernel
theorem dX8_lists_31 : decode cX8_lists 31 = .ok (.iastore, 1) := by decide +kernel
theorem dX8_lists_32 : decode cX8_lists 32 = .ok (.iinc 2 (-1), 3) := by decide +kernel
theorem dX8_lists_35 : decode cX8_lists 35 = .ok (.goto (-32), 3) := by decide +kernel
theorem dX8_lists_38 : decode cX8_lists 38 = .ok (.aload_n 0, 1) := by decide +kernel
theorem dX8_lists_39 : decode cX8_lists 39 = .ok (.getfield 7, 3) := by decide +kernel
theorem dX8_lists_42 : decode cX8_lists 42 = .ok (.iload_n 1, 1) := by decide +kernel
theorem dX8_lists_43 : decode cX8_lists 43 = .ok (.bipush 21, 2) := by decide +kernel
theorem dX8_lists_45 : decode cX8_lists 45 = .ok (.iadd, 1) := by decide +kernel
theorem dX8_lists_46 : decode cX8_lists 46 = .ok (.aload_n 0, 1) := by decide +kernel
theorem dX8_lists_47 : decode cX8_lists 47 = .ok (.getfield 7, 3) := by decide +kernel
theorem dX8_lists_50 : decode cX8_lists 50 = .ok (.iload_n 1, 1) := by decide +kernel
theorem dX8_lists_51 : decode cX8_lists 51 = .ok (.bipush 6, 2) := by decide +kernel
theorem dX8_lists_53 : decode cX8_lists 53 = .ok (.iadd, 1) := by decide +kernel
theorem dX8_lists_54 : decode cX8_lists 54 = .ok (.iaload, 1) := by decide +kernel
theorem dX8_lists_55 : decode cX8_lists 55 = .ok (.iastore, 1) := by decide +kernel
theorem dX8_lists_56 : decode cX8_lists 56 = .ok (.aload_n 0, 1) := by decide +kernel
theorem dX8_lists_57 : decode cX8_lists 57 = .ok (.getfield 7, 3) := by decide +kernel
theorem dX8_lists_60 : decode cX8_lists 60 = .ok (.iload_n 1, 1) := by decide +kernel
theorem dX8_lists_61 : decode cX8_lists 61 = .ok (.bipush 21, 2) := by decide +kernel
theorem dX8_lists_63 : decode cX8_lists 63 = .ok (.iadd, 1) := by decide +kernel
theorem dX8_lists_64 : decode cX8_lists 64 = .ok (.iconst 1, 1) := by decide +kernel
theorem dX8_lists_65 : decode cX8_lists 65 = .ok (.iadd, 1) := by decide +kernel
theorem dX8_lists_66 : decode cX8_lists 66 = .ok (.aload_n 0, 1) := by decide +kernel
theorem dX8_lists_67 : decode cX8_lists 67 = .ok (.getfield 7, 3) := by decide +kernel
theorem dX8_lists_70 : decode cX8_lists 70 = .ok (.iload_n 1, 1) := by decide +kernel
theorem dX8_lists_71 : decode cX8_lists 71 = .ok (.bipush 11, 2) := by decide +kernel
theorem dX8_lists_73 : decode cX8_lists 73 = .ok (.iadd, 1) := by decide +kernel
theorem dX8_lists_74 : decode cX8_lists 74 = .ok (.iaload, 1) := by decide +kernel
theorem dX8_lists_75 : decode cX8_lists 75 = .ok (.iastore, 1) := by decide +kernel
theorem dX8_lists_76 : decode cX8_lists 76 = .ok (.aload_n 0, 1) := by decide +kernel
theorem dX8_lists_77 : decode cX8_lists 77 = .ok (.getfield 7, 3) := by decide +kernel
theorem dX8_lists_80 : decode cX8_lists 80 = .ok (.iload_n 1, 1) := by decide +kernel
theorem dX8_lists_81 : decode cX8_lists 81 = .ok (.bipush 21, 2) := by decide +kernel
theorem dX8_lists_83 : decode cX8_lists 83 = .ok (.iadd, 1) := by decide +kernel
theorem dX8_lists_84 : decode cX8_lists 84 = .ok (.iconst 2, 1) := by decide +kernel
theorem dX8_lists_85 : decode cX8_lists 85 = .ok (.iadd, 1) := by decide +kernel
theorem dX8_lists_86 : decode cX8_lists 86 = .ok (.aload_n 0, 1) := by decide +kernel
theorem dX8_lists_87 : decode cX8_lists 87 = .ok (.getfield 7, 3) := by decide +kernel
theorem dX8_lists_90 : decode cX8_lists 90 = .ok (.iload_n 1, 1) := by decide +kernel
theorem dX8_lists_91 : decode cX8_lists 91 = .ok (.bipush 10, 2) := by decide +kernel
theorem dX8_lists_93 : decode cX8_lists 93 = .ok (.iadd, 1) := by decide +kernel
theorem dX8_lists_94 : decode cX8_lists 94 = .ok (.iaload, 1) := by decide +kernel
theorem dX8_lists_95 : decode cX8_lists 95 = .ok (.iastore, 1) := by decide +kernel
theorem dX8_lists_96 : decode cX8_lists 96 = .ok (.aload_n 0, 1) := by decide +kernel
theorem dX8_lists_97 : decode cX8_lists 97 = .ok (.getfield 7, 3) := by decide +kernel
theorem dX8_lists_100 : decode cX8_lists 100 = .ok (.iload_n 1, 1) := by decide +kernel
theorem dX8_lists_101 : decode cX8_lists 101 = .ok (.bipush 21, 2) := by decide +kernel
theorem dX8_lists_103 : decode cX8_lists 103 = .ok (.iadd, 1) := by decide +kernel
theorem dX8_lists_104 : decode cX8_lists 104 = .ok (.iconst 3, 1) := by decide +kernel
theorem dX8_lists_105 : decode cX8_lists 105 = .ok (.iadd, 1) := by decide +kernel
theorem dX8_lists_106 : decode cX8_lists 106 = .ok (.aload_n 0, 1) := by decide +kernel
theorem dX8_lists_107 : decode cX8_lists 107 = .ok (.getfield 7, 3) := by decide +kernel
theorem dX8_lists_110 : decode cX8_lists 110 = .ok (.iload_n 1, 1) := by decide +kernel
theorem dX8_lists_111 : decode cX8_lists 111 = .ok (.bipush 12, 2) := by decide +kernel
theorem dX8_lists_113 : decode cX8_lists 113 = .ok (.iadd, 1) := by decide +kernel
theorem dX8_lists_114 : decode cX8_lists 114 = .ok (.iaload, 1) := by decide +kernel
theorem dX8_lists_115 : decode cX8_lists 115 = .ok (.iastore, 1) := by decide +kernel
theorem dX8_lists_116 : decode cX8_lists 116 = .ok (.aload_n 0, 1) := by decide +kernel
theorem dX8_lists_117 : decode cX8_lists 117 = .ok (.getfield 7, 3) := by decide +kernel
theorem dX8_lists_120 : decode cX8_lists 120 = .ok (.iload_n 1, 1) := by decide +kernel
theorem dX8_lists_121 : decode cX8_lists 121 = .ok (.bipush 20, 2) := by decide +kernel
theorem dX8_lists_123 : decode cX8_lists 123 = .ok (.iadd, 1) := by decide +kernel
theorem dX8_lists_124 : decode cX8_lists 124 = .ok (.dup2, 1) := by decide +kernel
theorem dX8_lists_125 : decode cX8_lists 125 = .ok (.iaload, 1) := by decide +kernel
theorem dX8_lists_126 : decode cX8_lists 126 = .ok (.aload_n 0, 1) := by decide +kernel
theorem dX8_lists_127 : decode cX8_lists 127 = .ok (.getfield 7, 3) := by decide +kernel
theorem dX8_lists_130 : decode cX8_lists 130 = .ok (.iload_n 1, 1) := by decide +kernel
theorem dX8_lists_131 : decode cX8_lists 131 = .ok (.bipush 20, 2) := by decide +kernel
theorem dX8_lists_133 : decode cX8_lists 133 = .ok (.iadd, 1) := by decide +kernel
theorem dX8_lists_134 : decode cX8_lists 134 = .ok (.iaload, 1) := by decide +kernel
theorem dX8_lists_135 : decode cX8_lists 135 = .ok (.bipush 10, 2) := by decide +kernel
theorem dX8_lists_137 : decode cX8_lists 137 = .ok (.if_icmp .ge 7, 3) := by decide +kernel
theorem dX8_lists_140 : decode cX8_lists 140 = .ok (.iconst 1, 1) := by decide +kernel
theorem dX8_lists_141 : decode cX8_lists 141 = .ok (.goto 4, 3) := by decide +kernel
theorem dX8_lists_144 : decode cX8_lists 144 = .ok (.iconst 0, 1) := by decide +kernel
theorem dX8_lists_145 : decode cX8_lists 145 = .ok (.iadd, 1) := by decide +kernel
theorem dX8_lists_146 : decode cX8_lists 146 = .ok (.iastore, 1) := by decide +kernel
theorem dX8_lists_147 : decode cX8_lists 147 = .ok (.return_, 1) := by decide +kernel
theorem dX8_ends_0 : decode cX8_ends 0 = .ok (.aload_n 0, 1) := by decide +kernel
theorem dX8_ends_1 : decode cX8_ends 1 = .ok (.getfield 7, 3) := by decide +kernel
theorem dX8_ends_4 : decode cX8_ends 4 = .ok (.iload_n 1, 1) := by decide +kernel
theorem dX8_ends_5 : decode cX8_ends 5 = .ok (.bipush 11, 2) := by decide +kernel
theorem dX8_ends_7 : decode cX8_ends 7 = .ok (.iadd, 1) := by decide +kernel
theorem dX8_ends_8 : decode cX8_ends 8 = .ok (.iload_n 2, 1) := by decide +kernel
theorem dX8_ends_9 : decode cX8_ends 9 = .ok (.iastore, 1) := by decide +kernel
theorem dX8_ends_10 : decode cX8_ends 10 = .ok (.aload_n 0, 1) := by decide +kernel
theorem dX8_ends_11 : decode cX8_ends 11 = .ok (.getfield 7, 3) := by decide +kernel
theorem dX8_ends_14 : decode cX8_ends 14 = .ok (.iload_n 1, 1) := by decide +kernel
theorem dX8_ends_15 : decode cX8_ends 15 = .ok (.bipush 15, 2) := by decide +kernel
theorem dX8_ends_17 : decode cX8_ends 17 = .ok (.iadd, 1) := by decide +kernel
theorem dX8_ends_18 : decode cX8_ends 18 = .ok (.iload_n 2, 1) := by decide +kernel
theorem dX8_ends_19 : decode cX8_ends 19 = .ok (.iadd, 1) := by decide +kernel
theorem dX8_ends_20 : decode cX8_ends 20 = .ok (.iconst 1, 1) := by decide +kernel
theorem dX8_ends_21 : decode cX8_ends 21 = .ok (.isub, 1) := by decide +kernel
theorem dX8_ends_22 : decode cX8_ends 22 = .ok (.dup2, 1) := by decide +kernel
theorem dX8_ends_23 : decode cX8_ends 23 = .ok (.iaload, 1) := by decide +kernel
theorem dX8_ends_24 : decode cX8_ends 24 = .ok (.iconst 1, 1) := by decide +kernel
theorem dX8_ends_25 : decode cX8_ends 25 = .ok (.iadd, 1) := by decide +kernel
theorem dX8_ends_26 : decode cX8_ends 26 = .ok (.iastore, 1) := by decide +kernel
theorem dX8_ends_27 : decode cX8_ends 27 = .ok (.iload_n 2, 1) := by decide +kernel
theorem dX8_ends_28 : decode cX8_ends 28 = .ok (.iconst 4, 1) := by decide +kernel
theorem dX8_ends_29 : decode cX8_ends 29 = .ok (.if_icmp .eq 29, 3) := by decide +kernel
theorem dX8_ends_32 : decode cX8_ends 32 = .ok (.aload_n 0, 1) := by decide +kernel
theorem dX8_ends_33 : decode cX8_ends 33 = .ok (.getfield 7, 3) := by decide +kernel
theorem dX8_ends_36 : decode cX8_ends 36 = .ok (.iload_n 1, 1) := by decide +kernel
theorem dX8_ends_37 : decode cX8_ends 37 = .ok (.aload_n 0, 1) := by decide +kernel
theorem dX8_ends_38 : decode cX8_ends 38 = .ok (.getfield 7, 3) := by decide +kernel
theorem dX8_ends_41 : decode cX8_ends 41 = .ok (.iload_n 1, 1) := by decide +kernel
theorem dX8_ends_42 : decode cX8_ends 42 = .ok (.bipush 10, 2) := by decide +kernel
theorem dX8_ends_44 : decode cX8_ends 44 = .ok (.iadd, 1) := by decide +kernel
theorem dX8_ends_45 : decode cX8_ends 45 = .ok (.iaload, 1) := by decide +kernel
theorem dX8_ends_46 : decode cX8_ends 46 = .ok (.invokestatic 42, 3) := by decide +kernel
theorem dX8_ends_49 : decode cX8_ends 49 = .ok (.iconst 1, 1) := by decide +kernel
theorem dX8_ends_50 : decode cX8_ends 50 = .ok (.iadd, 1) := by decide +kernel
theorem dX8_ends_51 : decode cX8_ends 51 = .ok (.iload_n 2, 1) := by decide +kernel
theorem dX8_ends_52 : decode cX8_ends 52 = .ok (.iadd, 1) := by decide +kernel
theorem dX8_ends_53 : decode cX8_ends 53 = .ok (.dup2, 1) := by decide +kernel
theorem dX8_ends_54 : decode cX8_ends 54 = .ok (.iaload, 1) := by decide +kernel
theorem dX8_ends_55 : decode cX8_ends 55 = .ok (.iconst 1, 1) := by decide +kernel
theorem dX8_ends_56 : decode cX8_ends 56 = .ok (.iadd, 1) := by decide +kernel
theorem dX8_ends_57 : decode cX8_ends 57 = .ok (.iastore, 1) := by decide +kernel
theorem dX8_ends_58 : decode cX8_ends 58 = .ok (.aload_n 0, 1) := by decide +kernel
theorem dX8_ends_59 : decode cX8_ends 59 = .ok (.iload_n 1, 1) := by decide +kernel
theorem dX8_ends_60 : decode cX8_ends 60 = .ok (.invokevirtual 55, 3) := by decide +kernel
theorem dX8_ends_63 : decode cX8_ends 63 = .ok (.return_, 1) := by decide +kernel
theorem dX8_rolls_0 : decode cX8_rolls 0 = .ok (.iconst 0, 1) := by decide +kernel
theorem dX8_rolls_1 : decode cX8_rolls 1 = .ok (.istore_n 3, 1) := by decide +kernel
theorem dX8_rolls_2 : decode cX8_rolls 2 = .ok (.iload_n 3, 1) := by decide +kernel
theorem dX8_rolls_3 : decode cX8_rolls 3 = .ok (.iload_n 2, 1) := by decide +kernel
theorem dX8_rolls_4 : decode cX8_rolls 4 = .ok (.if_icmp .ge 93, 3) := by decide +kernel
theorem dX8_rolls_7 : decode cX8_rolls 7 = .ok (.aload_n 0, 1) := by decide +kernel
theorem dX8_rolls_8 : decode cX8_rolls 8 = .ok (.getfield 7, 3) := by decide +kernel
theorem dX8_rolls_11 : decode cX8_rolls 11 = .ok (.iload_n 1, 1) := by decide +kernel
theorem dX8_rolls_12 : decode cX8_rolls 12 = .ok (.bipush 11, 2) := by decide +kernel
theorem dX8_rolls_14 : decode cX8_rolls 14 = .ok (.iadd, 1) := by decide +kernel
theorem dX8_rolls_15 : decode cX8_rolls 15 = .ok (.iaload, 1) := by decide +kernel
theorem dX8_rolls_16 : decode cX8_rolls 16 = .ok (.ifCond .ne 81, 3) := by decide +kernel
theorem dX8_rolls_19 : decode cX8_rolls 19 = .ok (.aload_n 0, 1) := by decide +kernel
theorem dX8_rolls_20 : decode cX8_rolls 20 = .ok (.getfield 7, 3) := by decide +kernel
theorem dX8_rolls_23 : decode cX8_rolls 23 = .ok (.iload_n 1, 1) := by decide +kernel
theorem dX8_rolls_24 : decode cX8_rolls 24 = .ok (.bipush 10, 2) := by decide +kernel
theorem dX8_rolls_26 : decode cX8_rolls 26 = .ok (.iadd, 1) := by decide +kernel
theorem dX8_rolls_27 : decode cX8_rolls 27 = .ok (.iaload, 1) := by decide +kernel
theorem dX8_rolls_28 : decode cX8_rolls 28 = .ok (.aload_n 0, 1) := by decide +kernel
theorem dX8_rolls_29 : decode cX8_rolls 29 = .ok (.getfield 7, 3) := by decide +kernel
theorem dX8_rolls_32 : decode cX8_rolls 32 = .ok (.iload_n 1, 1) := by decide +kernel
theorem dX8_rolls_33 : decode cX8_rolls 33 = .ok (.iconst 4, 1) := by decide +kernel
theorem dX8_rolls_34 : decode cX8_rolls 34 = .ok (.iadd, 1) := by decide +kernel
theorem dX8_rolls_35 : decode cX8_rolls 35 = .ok (.iaload, 1) := by decide +kernel
theorem dX8_rolls_36 : decode cX8_rolls 36 = .ok (.if_icmp .ge 11, 3) := by decide +kernel
theorem dX8_rolls_39 : decode cX8_rolls 39 = .ok (.aload_n 0, 1) := by decide +kernel
theorem dX8_rolls_40 : decode cX8_rolls 40 = .ok (.iload_n 1, 1) := by decide +kernel
theorem dX8_rolls_41 : decode cX8_rolls 41 = .ok (.invokevirtual 59, 3) := by decide +kernel
theorem dX8_rolls_44 : decode cX8_rolls 44 = .ok (.goto 4, 3) := by decide +kernel
theorem dX8_rolls_47 : decode cX8_rolls 47 = .ok (.iconst 0, 1) := by decide +kernel
theorem dX8_rolls_48 : decode cX8_rolls 48 = .ok (.istore 4, 2) := by decide +kernel
theorem dX8_rolls_50 : decode cX8_rolls 50 = .ok (.iload 4, 2) := by decide +kernel
theorem dX8_rolls_52 : decode cX8_rolls 52 = .ok (.ifCond .le 13, 3) := by decide +kernel
theorem dX8_rolls_55 : decode cX8_rolls 55 = .ok (.aload_n 0, 1) := by decide +kernel
theorem dX8_rolls_56 : decode cX8_rolls 56 = .ok (.iload_n 1, 1) := by decide +kernel
theorem dX8_rolls_57 : decode cX8_rolls 57 = .ok (.iload 4, 2) := by decide +kernel
theorem dX8_rolls_59 : decode cX8_rolls 59 = .ok (.invokevirtual 62, 3) := by decide +kernel
theorem dX8_rolls_62 : decode cX8_rolls 62 = .ok (.goto 29, 3) := by decide +kernel
theorem dX8_rolls_65 : decode cX8_rolls 65 = .ok (.aload_n 0, 1) := by decide +kernel
theorem dX8_rolls_66 : decode cX8_rolls 66 = .ok (.getfield 7, 3) := by decide +kernel
theorem dX8_rolls_69 : decode cX8_rolls 69 = .ok (.iload_n 1, 1) := by decide +kernel
theorem dX8_rolls_70 : decode cX8_rolls 70 = .ok (.bipush 10, 2) := by decide +kernel
theorem dX8_rolls_72 : decode cX8_rolls 72 = .ok (.iadd, 1) := by decide +kernel
theorem dX8_rolls_73 : decode cX8_rolls 73 = .ok (.iaload, 1) := by decide +kernel
theorem dX8_rolls_74 : decode cX8_rolls 74 = .ok (.aload_n 0, 1) := by decide +kernel
theorem dX8_rolls_75 : decode cX8_rolls 75 = .ok (.getfield 7, 3) := by decide +kernel
theorem dX8_rolls_78 : decode cX8_rolls 78 = .ok (.iload_n 1, 1) := by decide +kernel
theorem dX8_rolls_79 : decode cX8_rolls 79 = .ok (.iconst 4, 1) := by decide +kernel
theorem dX8_rolls_80 : decode cX8_rolls 80 = .ok (.iadd, 1) := by decide +kernel
theorem dX8_rolls_81 : decode cX8_rolls 81 = .ok (.iaload, 1) := by decide +kernel
theorem dX8_rolls_82 : decode cX8_rolls 82 = .ok (.if_icmp .ne 9, 3) := by decide +kernel
theorem dX8_rolls_85 : decode cX8_rolls 85 = .ok (.aload_n 0, 1) := by decide +kernel
theorem dX8_rolls_86 : decode cX8_rolls 86 = .ok (.iload_n 1, 1) := by decide +kernel
theorem dX8_rolls_87 : decode cX8_rolls 87 = .ok (.iconst 4, 1) := by decide +kernel
theorem dX8_rolls_88 : decode cX8_rolls 88 = .ok (.invokevirtual 62, 3) := by decide +kernel
theorem dX8_rolls_91 : decode cX8_rolls 91 = .ok (.iinc 3 1, 3) := by decide +kernel
theorem dX8_rolls_94 : decode cX8_rolls 94 = .ok (.goto (-92), 3) := by decide +kernel
theorem dX8_rolls_97 : decode cX8_rolls 97 = .ok (.aload_n 0, 1) := by decide +kernel
theorem dX8_rolls_98 : decode cX8_rolls 98 = .ok (.getfield 7, 3) := by decide +kernel
theorem dX8_rolls_101 : decode cX8_rolls 101 = .ok (.iload_n 1, 1) := by decide +kernel
theorem dX8_rolls_102 : decode cX8_rolls 102 = .ok (.bipush 11, 2) := by decide +kernel
theorem dX8_rolls_104 : decode cX8_rolls 104 = .ok (.iadd, 1) := by decide +kernel
theorem dX8_rolls_105 : decode cX8_rolls 105 = .ok (.iaload, 1) := by decide +kernel
theorem dX8_rolls_106 : decode cX8_rolls 106 = .ok (.ireturn, 1) := by decide +kernel
theorem dX8_begins_0 : decode cX8_begins 0 = .ok (.aload_n 0, 1) := by decide +kernel
theorem dX8_begins_1 : decode cX8_begins 1 = .ok (.getfield 7, 3) := by decide +kernel
theorem dX8_begins_4 : decode cX8_begins 4 = .ok (.iload_n 1, 1) := by decide +kernel
theorem dX8_begins_5 : decode cX8_begins 5 = .ok (.iconst 5, 1) := by decide +kernel
theorem dX8_begins_6 : decode cX8_begins 6 = .ok (.iadd, 1) := by decide +kernel
theorem dX8_begins_7 : decode cX8_begins 7 = .ok (.iconst 1, 1) := by decide +kernel
theorem dX8_begins_8 : decode cX8_begins 8 = .ok (.iastore, 1) := by decide +kernel
theorem dX8_begins_9 : decode cX8_begins 9 = .ok (.aload_n 0, 1) := by decide +kernel
theorem dX8_begins_10 : decode cX8_begins 10 = .ok (.getfield 7, 3) := by decide +kernel
theorem dX8_begins_13 : decode cX8_begins 13 = .ok (.iload_n 1, 1) := by decide +kernel
theorem dX8_begins_14 : decode cX8_begins 14 = .ok (.bipush 6, 2) := by decide +kernel
theorem dX8_begins_16 : decode cX8_begins 16 = .ok (.iadd, 1) := by decide +kernel
theorem dX8_begins_17 : decode cX8_begins 17 = .ok (.iload_n 2, 1) := by decide +kernel
theorem dX8_begins_18 : decode cX8_begins 18 = .ok (.iastore, 1) := by decide +kernel
theorem dX8_begins_19 : decode cX8_begins 19 = .ok (.aload_n 0, 1) := by decide +kernel
theorem dX8_begins_20 : decode cX8_begins 20 = .ok (.getfield 7, 3) := by decide +kernel
theorem dX8_begins_23 : decode cX8_begins 23 = .ok (.iload_n 1, 1) := by decide +kernel
theorem dX8_begins_24 : decode cX8_begins 24 = .ok (.bipush 7, 2) := by decide +kernel
theorem dX8_begins_26 : decode cX8_begins 26 = .ok (.iadd, 1) := by decide +kernel
theorem dX8_begins_27 : decode cX8_begins 27 = .ok (.bipush 10, 2) := by decide +kernel
theorem dX8_begins_29 : decode cX8_begins 29 = .ok (.iastore, 1) := by decide +kernel
theorem dX8_begins_30 : decode cX8_begins 30 = .ok (.aload_n 0, 1) := by decide +kernel
theorem dX8_begins_31 : decode cX8_begins 31 = .ok (.getfield 7, 3) := by decide +kernel
theorem dX8_begins_34 : decode cX8_begins 34 = .ok (.iload_n 1, 1) := by decide +kernel
theorem dX8_begins_35 : decode cX8_begins 35 = .ok (.bipush 8, 2) := by decide +kernel
theorem dX8_begins_37 : decode cX8_begins 37 = .ok (.iadd, 1) := by decide +kernel
theorem dX8_begins_38 : decode cX8_begins 38 = .ok (.iconst 0, 1) := by decide +kernel
theorem dX8_begins_39 : decode cX8_begins 39 = .ok (.iastore, 1) := by decide +kernel
theorem dX8_begins_40 : decode cX8_begins 40 = .ok (.aload_n 0, 1) := by decide +kernel
theorem dX8_begins_41 : decode cX8_begins 41 = .ok (.getfield 7, 3) := by decide +kernel
theorem dX8_begins_44 : decode cX8_begins 44 = .ok (.iload_n 1, 1) := by decide +kernel
theorem dX8_begins_45 : decode cX8_begins 45 = .ok (.bipush 9, 2) := by decide +kernel
theorem dX8_begins_47 : decode cX8_begins 47 = .ok (.iadd, 1) := by decide +kernel
theorem dX8_begins_48 : decode cX8_begins 48 = .ok (.iconst 0, 1) := by decide +kernel
theorem dX8_begins_49 : decode cX8_begins 49 = .ok (.iastore, 1) := by decide +kernel
theorem dX8_begins_50 : decode cX8_begins 50 = .ok (.aload_n 0, 1) := by decide +kernel
theorem dX8_begins_51 : decode cX8_begins 51 = .ok (.getfield 7, 3) := by decide +kernel
theorem dX8_begins_54 : decode cX8_begins 54 = .ok (.iload_n 1, 1) := by decide +kernel
theorem dX8_begins_55 : decode cX8_begins 55 = .ok (.bipush 10, 2) := by decide +kernel
theorem dX8_begins_57 : decode cX8_begins 57 = .ok (.iadd, 1) := by decide +kernel
theorem dX8_begins_58 : decode cX8_begins 58 = .ok (.iconst 0, 1) := by decide +kernel
theorem dX8_begins_59 : decode cX8_begins 59 = .ok (.iastore, 1) := by decide +kernel
theorem dX8_begins_60 : decode cX8_begins 60 = .ok (.aload_n 0, 1) := by decide +kernel
theorem dX8_begins_61 : decode cX8_begins 61 = .ok (.getfield 7, 3) := by decide +kernel
theorem dX8_begins_64 : decode cX8_begins 64 = .ok (.iload_n 1, 1) := by decide +kernel
theorem dX8_begins_65 : decode cX8_begins 65 = .ok (.bipush 11, 2) := by decide +kernel
theorem dX8_begins_67 : decode cX8_begins 67 = .ok (.iadd, 1) := by decide +kernel
theorem dX8_begins_68 : decode cX8_begins 68 = .ok (.iconst 0, 1) := by decide +kernel
theorem dX8_begins_69 : decode cX8_begins 69 = .ok (.iastore, 1) := by decide +kernel
theorem dX8_begins_70 : decode cX8_begins 70 = .ok (.aload_n 0, 1) := by decide +kernel
theorem dX8_begins_71 : decode cX8_begins 71 = .ok (.getfield 7, 3) := by decide +kernel
theorem dX8_begins_74 : decode cX8_begins 74 = .ok (.iload_n 1, 1) := by decide +kernel
theorem dX8_begins_75 : decode cX8_begins 75 = .ok (.bipush 12, 2) := by decide +kernel
theorem dX8_begins_77 : decode cX8_begins 77 = .ok (.iadd, 1) := by decide +kernel
theorem dX8_begins_78 : decode cX8_begins 78 = .ok (.iconst 0, 1) := by decide +kernel
theorem dX8_begins_79 : decode cX8_begins 79 = .ok (.iastore, 1) := by decide +kernel
theorem dX8_begins_80 : decode cX8_begins 80 = .ok (.aload_n 0, 1) := by decide +kernel
theorem dX8_begins_81 : decode cX8_begins 81 = .ok (.getfield 7, 3) := by decide +kernel
theorem dX8_begins_84 : decode cX8_begins 84 = .ok (.iload_n 1, 1) := by decide +kernel
theorem dX8_begins_85 : decode cX8_begins 85 = .ok (.bipush 13, 2) := by decide +kernel
theorem dX8_begins_87 : decode cX8_begins 87 = .ok (.iadd, 1) := by decide +kernel
theorem dX8_begins_88 : decode cX8_begins 88 = .ok (.iconst 0, 1) := by decide +kernel
theorem dX8_begins_89 : decode cX8_begins 89 = .ok (.iastore, 1) := by decide +kernel
theorem dX8_begins_90 : decode cX8_begins 90 = .ok (.aload_n 0, 1) := by decide +kernel
theorem dX8_begins_91 : decode cX8_begins 91 = .ok (.getfield 7, 3) := by decide +kernel
theorem dX8_begins_94 : decode cX8_begins 94 = .ok (.iload_n 1, 1) := by decide +kernel
theorem dX8_begins_95 : decode cX8_begins 95 = .ok (.bipush 14, 2) := by decide +kernel
theorem dX8_begins_97 : decode cX8_begins 97 = .ok (.iadd, 1) := by decide +kernel
theorem dX8_begins_98 : decode cX8_begins 98 = .ok (.dup2, 1) := by decide +kernel
theorem dX8_begins_99 : decode cX8_begins 99 = .ok (.iaload, 1) := by decide +kernel
theorem dX8_begins_100 : decode cX8_begins 100 = .ok (.iconst 1, 1) := by decide +kernel
theorem dX8_begins_101 : decode cX8_begins 101 = .ok (.iadd, 1) := by decide +kernel
theorem dX8_begins_102 : decode cX8_begins 102 = .ok (.iastore, 1) := by decide +kernel
theorem dX8_begins_103 : decode cX8_begins 103 = .ok (.return_, 1) := by decide +kernel
theorem dX8_taps_0 : decode cX8_taps 0 = .ok (.aload_n 0, 1) := by decide +kernel
theorem dX8_taps_1 : decode cX8_taps 1 = .ok (.getfield 7, 3) := by decide +kernel
theorem dX8_taps_4 : decode cX8_taps 4 = .ok (.iload_n 1, 1) := by decide +kernel
theorem dX8_taps_5 : decode cX8_taps 5 = .ok (.bipush 8, 2) := by decide +kernel
theorem dX8_taps_7 : decode cX8_taps 7 = .ok (.iadd, 1) := by decide +kernel
theorem dX8_taps_8 : decode cX8_taps 8 = .ok (.dup2, 1) := by decide +kernel
theorem dX8_taps_9 : decode cX8_taps 9 = .ok (.iaload, 1) := by decide +kernel
theorem dX8_taps_10 : decode cX8_taps 10 = .ok (.iload_n 2, 1) := by decide +kernel
theorem dX8_taps_11 : decode cX8_taps 11 = .ok (.ifCond .ne 14, 3) := by decide +kernel
theorem dX8_taps_14 : decode cX8_taps 14 = .ok (.aload_n 0, 1) := by decide +kernel
theorem dX8_taps_15 : decode cX8_taps 15 = .ok (.getfield 7, 3) := by decide +kernel
theorem dX8_taps_18 : decode cX8_taps 18 = .ok (.iload_n 1, 1) := by decide +kernel
theorem dX8_taps_19 : decode cX8_taps 19 = .ok (.iconst 3, 1) := by decide +kernel
theorem dX8_taps_20 : decode cX8_taps 20 = .ok (.iadd, 1) := by decide +kernel
theorem dX8_taps_21 : decode cX8_taps 21 = .ok (.iaload, 1) := by decide +kernel
theorem dX8_taps_22 : decode cX8_taps 22 = .ok (.goto 12, 3) := by decide +kernel
theorem dX8_taps_25 : decode cX8_taps 25 = .ok (.aload_n 0, 1) := by decide +kernel
theorem dX8_taps_26 : decode cX8_taps 26 = .ok (.getfield 7, 3) := by decide +kernel
theorem dX8_taps_29 : decode cX8_taps 29 = .ok (.iload_n 1, 1) := by decide +kernel
theorem dX8_taps_30 : decode cX8_taps 30 = .ok (.iconst 3, 1) := by decide +kernel
theorem dX8_taps_31 : decode cX8_taps 31 = .ok (.iadd, 1) := by decide +kernel
theorem dX8_taps_32 : decode cX8_taps 32 = .ok (.iaload, 1) := by decide +kernel
theorem dX8_taps_33 : decode cX8_taps 33 = .ok (.ineg, 1) := by decide +kernel
theorem dX8_taps_34 : decode cX8_taps 34 = .ok (.iadd, 1) := by decide +kernel
theorem dX8_taps_35 : decode cX8_taps 35 = .ok (.iastore, 1) := by decide +kernel
theorem dX8_taps_36 : decode cX8_taps 36 = .ok (.aload_n 0, 1) := by decide +kernel
theorem dX8_taps_37 : decode cX8_taps 37 = .ok (.getfield 7, 3) := by decide +kernel
theorem dX8_taps_40 : decode cX8_taps 40 = .ok (.iload_n 1, 1) := by decide +kernel
theorem dX8_taps_41 : decode cX8_taps 41 = .ok (.bipush 9, 2) := by decide +kernel
theorem dX8_taps_43 : decode cX8_taps 43 = .ok (.iadd, 1) := by decide +kernel
theorem dX8_taps_44 : decode cX8_taps 44 = .ok (.aload_n 0, 1) := by decide +kernel
theorem dX8_taps_45 : decode cX8_taps 45 = .ok (.getfield 7, 3) := by decide +kernel
theorem dX8_taps_48 : decode cX8_taps 48 = .ok (.iload_n 1, 1) := by decide +kernel
theorem dX8_taps_49 : decode cX8_taps 49 = .ok (.bipush 9, 2) := by decide +kernel
theorem dX8_taps_51 : decode cX8_taps 51 = .ok (.iadd, 1) := by decide +kernel
theorem dX8_taps_52 : decode cX8_taps 52 = .ok (.iaload, 1) := by decide +kernel
theorem dX8_taps_53 : decode cX8_taps 53 = .ok (.iconst 2, 1) := by decide +kernel
theorem dX8_taps_54 : decode cX8_taps 54 = .ok (.iadd, 1) := by decide +kernel
theorem dX8_taps_55 : decode cX8_taps 55 = .ok (.bipush 99, 2) := by decide +kernel
theorem dX8_taps_57 : decode cX8_taps 57 = .ok (.invokestatic 34, 3) := by decide +kernel
theorem dX8_taps_60 : decode cX8_taps 60 = .ok (.iastore, 1) := by decide +kernel
theorem dX8_taps_61 : decode cX8_taps 61 = .ok (.aload_n 0, 1) := by decide +kernel
theorem dX8_taps_62 : decode cX8_taps 62 = .ok (.getfield 7, 3) := by decide +kernel
theorem dX8_taps_65 : decode cX8_taps 65 = .ok (.iload_n 1, 1) := by decide +kernel
theorem dX8_taps_66 : decode cX8_taps 66 = .ok (.bipush 12, 2) := by decide +kernel
theorem dX8_taps_68 : decode cX8_taps 68 = .ok (.iadd, 1) := by decide +kernel
theorem dX8_taps_69 : decode cX8_taps 69 = .ok (.dup2, 1) := by decide +kernel
theorem dX8_taps_70 : decode cX8_taps 70 = .ok (.iaload, 1) := by decide +kernel
theorem dX8_taps_71 : decode cX8_taps 71 = .ok (.iconst 1, 1) := by decide +kernel
theorem dX8_taps_72 : decode cX8_taps 72 = .ok (.iadd, 1) := by decide +kernel
theorem dX8_taps_73 : decode cX8_taps 73 = .ok (.iastore, 1) := by decide +kernel
theorem dX8_taps_74 : decode cX8_taps 74 = .ok (.aload_n 0, 1) := by decide +kernel
theorem dX8_taps_75 : decode cX8_taps 75 = .ok (.getfield 7, 3) := by decide +kernel
theorem dX8_taps_78 : decode cX8_taps 78 = .ok (.iload_n 1, 1) := by decide +kernel
theorem dX8_taps_79 : decode cX8_taps 79 = .ok (.bipush 19, 2) := by decide +kernel
theorem dX8_taps_81 : decode cX8_taps 81 = .ok (.iadd, 1) := by decide +kernel
theorem dX8_taps_82 : decode cX8_taps 82 = .ok (.dup2, 1) := by decide +kernel
theorem dX8_taps_83 : decode cX8_taps 83 = .ok (.iaload, 1) := by decide +kernel
theorem dX8_taps_84 : decode cX8_taps 84 = .ok (.iconst 1, 1) := by decide +kernel
theorem dX8_taps_85 : decode cX8_taps 85 = .ok (.iadd, 1) := by decide +kernel
theorem dX8_taps_86 : decode cX8_taps 86 = .ok (.iastore, 1) := by decide +kernel
theorem dX8_taps_87 : decode cX8_taps 87 = .ok (.return_, 1) := by decide +kernel
theorem dX8_isRolling_0 : decode cX8_isRolling 0 = .ok (.aload_n 0, 1) := by decide +kernel
theorem dX8_isRolling_1 : decode cX8_isRolling 1 = .ok (.getfield 7, 3) := by decide +kernel
theorem dX8_isRolling_4 : decode cX8_isRolling 4 = .ok (.iconst 5, 1) := by decide +kernel
theorem dX8_isRolling_5 : decode cX8_isRolling 5 = .ok (.iaload, 1) := by decide +kernel
theorem dX8_isRolling_6 : decode cX8_isRolling 6 = .ok (.iconst 1, 1) := by decide +kernel
theorem dX8_isRolling_7 : decode cX8_isRolling 7 = .ok (.if_icmp .ne 17, 3) := by decide +kernel
theorem dX8_isRolling_10 : decode cX8_isRolling 10 = .ok (.aload_n 0, 1) := by decide +kernel
theorem dX8_isRolling_11 : decode cX8_isRolling 11 = .ok (.getfield 7, 3) := by decide +kernel
theorem dX8_isRolling_14 : decode cX8_isRolling 14 = .ok (.bipush 11, 2) := by decide +kernel
theorem dX8_isRolling_16 : decode cX8_isRolling 16 = .ok (.iaload, 1) := by decide +kernel
theorem dX8_isRolling_17 : decode cX8_isRolling 17 = .ok (.ifCond .ne 7, 3) := by decide +kernel
theorem dX8_isRolling_20 : decode cX8_isRolling 20 = .ok (.iconst 1, 1) := by decide +kernel
theorem dX8_isRolling_21 : decode cX8_isRolling 21 = .ok (.goto 4, 3) := by decide +kernel
theorem dX8_isRolling_24 : decode cX8_isRolling 24 = .ok (.iconst 0, 1) := by decide +kernel
theorem dX8_isRolling_25 : decode cX8_isRolling 25 = .ok (.ireturn, 1) := by decide +kernel
theorem dX8_canSet_0 : decode cX8_canSet 0 = .ok (.iload_n 0, 1) := by decide +kernel
theorem dX8_canSet_1 : decode cX8_canSet 1 = .ok (.lookupswitch 44 #[(0, 27), (3, 36)], 27) := by decide +kernel
theorem dX8_canSet_28 : decode cX8_canSet 28 = .ok (.iload_n 1, 1) := by decide +kernel
theorem dX8_canSet_29 : decode cX8_canSet 29 = .ok (.bipush 10, 2) := by decide +kernel
theorem dX8_canSet_31 : decode cX8_canSet 31 = .ok (.bipush 99, 2) := by decide +kernel
theorem dX8_canSet_33 : decode cX8_canSet 33 = .ok (.invokestatic 26, 3) := by decide +kernel
theorem dX8_canSet_36 : decode cX8_canSet 36 = .ok (.ireturn, 1) := by decide +kernel
theorem dX8_canSet_37 : decode cX8_canSet 37 = .ok (.iload_n 1, 1) := by decide +kernel
theorem dX8_canSet_38 : decode cX8_canSet 38 = .ok (.iconst 1, 1) := by decide +kernel
theorem dX8_canSet_39 : decode cX8_canSet 39 = .ok (.bipush 30, 2) := by decide +kernel
theorem dX8_canSet_41 : decode cX8_canSet 41 = .ok (.invokestatic 26, 3) := by decide +kernel
theorem dX8_canSet_44 : decode cX8_canSet 44 = .ok (.ireturn, 1) := by decide +kernel
theorem dX8_canSet_45 : decode cX8_canSet 45 = .ok (.iload_n 0, 1) := by decide +kernel
theorem dX8_canSet_46 : decode cX8_canSet 46 = .ok (.iconst 1, 1) := by decide +kernel
theorem dX8_canSet_47 : decode cX8_canSet 47 = .ok (.if_icmp .eq 8, 3) := by decide +kernel
theorem dX8_canSet_50 : decode cX8_canSet 50 = .ok (.iload_n 0, 1) := by decide +kernel
theorem dX8_canSet_51 : decode cX8_canSet 51 = .ok (.iconst 2, 1) := by decide +kernel
theorem dX8_canSet_52 : decode cX8_canSet 52 = .ok (.if_icmp .ne 17, 3) := by decide +kernel
theorem dX8_canSet_55 : decode cX8_canSet 55 = .ok (.iload_n 1, 1) := by decide +kernel
theorem dX8_canSet_56 : decode cX8_canSet 56 = .ok (.iconst 0, 1) := by decide +kernel
theorem dX8_canSet_57 : decode cX8_canSet 57 = .ok (.bipush 20, 2) := by decide +kernel
theorem dX8_canSet_59 : decode cX8_canSet 59 = .ok (.invokestatic 26, 3) := by decide +kernel
theorem dX8_canSet_62 : decode cX8_canSet 62 = .ok (.ifCond .eq 7, 3) := by decide +kernel
theorem dX8_canSet_65 : decode cX8_canSet 65 = .ok (.iconst 1, 1) := by decide +kernel
theorem dX8_canSet_66 : decode cX8_canSet 66 = .ok (.goto 4, 3) := by decide +kernel
theorem dX8_canSet_69 : decode cX8_canSet 69 = .ok (.iconst 0, 1) := by decide +kernel
theorem dX8_canSet_70 : decode cX8_canSet 70 = .ok (.ireturn, 1) := by decide +kernel
theorem dX8_set_0 : decode cX8_set 0 = .ok (.iload_n 1, 1) := by decide +kernel
theorem dX8_set_1 : decode cX8_set 1 = .ok (.iload_n 2, 1) := by decide +kernel
theorem dX8_set_2 : decode cX8_set 2 = .ok (.invokestatic 65, 3) := by decide +kernel
theorem dX8_set_5 : decode cX8_set 5 = .ok (.ifCond .ne 6, 3) := by decide +kernel
theorem dX8_set_8 : decode cX8_set 8 = .ok (.bipush (-2), 2) := by decide +kernel
theorem dX8_set_10 : decode cX8_set 10 = .ok (.ireturn, 1) := by decide +kernel
theorem dX8_set_11 : decode cX8_set 11 = .ok (.aload_n 0, 1) := by decide +kernel
theorem dX8_set_12 : decode cX8_set 12 = .ok (.invokevirtual 69, 3) := by decide +kernel
theorem dX8_set_15 : decode cX8_set 15 = .ok (.aload_n 0, 1) := by decide +kernel
theorem dX8_set_16 : decode cX8_set 16 = .ok (.getfield 7, 3) := by decide +kernel
theorem dX8_set_19 : decode cX8_set 19 = .ok (.iload_n 1, 1) := by decide +kernel
theorem dX8_set_20 : decode cX8_set 20 = .ok (.iaload, 1) := by decide +kernel
theorem dX8_set_21 : decode cX8_set 21 = .ok (.istore_n 3, 1) := by decide +kernel
theorem dX8_set_22 : decode cX8_set 22 = .ok (.aload_n 0, 1) := by decide +kernel
theorem dX8_set_23 : decode cX8_set 23 = .ok (.getfield 7, 3) := by decide +kernel
theorem dX8_set_26 : decode cX8_set 26 = .ok (.iload_n 1, 1) := by decide +kernel
theorem dX8_set_27 : decode cX8_set 27 = .ok (.iload_n 2, 1) := by decide +kernel
theorem dX8_set_28 : decode cX8_set 28 = .ok (.iastore, 1) := by decide +kernel
theorem dX8_set_29 : decode cX8_set 29 = .ok (.iload_n 3, 1) := by decide +kernel
theorem dX8_set_30 : decode cX8_set 30 = .ok (.ireturn, 1) := by decide +kernel
theorem dX8_whyNotPart_0 : decode cX8_whyNotPart 0 = .ok (.iload_n 1, 1) := by decide +kernel
theorem dX8_whyNotPart_1 : decode cX8_whyNotPart 1 = .ok (.iconst 0, 1) := by decide +kernel
theorem dX8_whyNotPart_2 : decode cX8_whyNotPart 2 = .ok (.aload_n 0, 1) := by decide +kernel
theorem dX8_whyNotPart_3 : decode cX8_whyNotPart 3 = .ok (.getfield 7, 3) := by decide +kernel
theorem dX8_whyNotPart_6 : decode cX8_whyNotPart 6 = .ok (.iconst 4, 1) := by decide +kernel
theorem dX8_whyNotPart_7 : decode cX8_whyNotPart 7 = .ok (.iaload, 1) := by decide +kernel
theorem dX8_whyNotPart_8 : decode cX8_whyNotPart 8 = .ok (.invokestatic 26, 3) := by decide +kernel
theorem dX8_whyNotPart_11 : decode cX8_whyNotPart 11 = .ok (.ifCond .ne 5, 3) := by decide +kernel
theorem dX8_whyNotPart_14 : decode cX8_whyNotPart 14 = .ok (.iconst (-1), 1) := by decide +kernel
theorem dX8_whyNotPart_15 : decode cX8_whyNotPart 15 = .ok (.ireturn, 1) := by decide +kernel
theorem dX8_whyNotPart_16 : decode cX8_whyNotPart 16 = .ok (.iload_n 2, 1) := by decide +kernel
theorem dX8_whyNotPart_17 : decode cX8_whyNotPart 17 = .ok (.iconst 0, 1) := by decide +kernel
theorem dX8_whyNotPart_18 : decode cX8_whyNotPart 18 = .ok (.iconst 2, 1) := by decide +kernel
theorem dX8_whyNotPart_19 : decode cX8_whyNotPart 19 = .ok (.invokestatic 26, 3) := by decide +kernel
theorem dX8_whyNotPart_22 : decode cX8_whyNotPart 22 = .ok (.ifCond .eq 27, 3) := by decide +kernel
theorem dX8_whyNotPart_25 : decode cX8_whyNotPart 25 = .ok (.iload_n 3, 1) := by decide +kernel
theorem dX8_whyNotPart_26 : decode cX8_whyNotPart 26 = .ok (.iconst 1, 1) := by decide +kernel
theorem dX8_whyNotPart_27 : decode cX8_whyNotPart 27 = .ok (.iload_n 2, 1) := by decide +kernel
theorem dX8_whyNotPart_28 : decode cX8_whyNotPart 28 = .ok (.iconst 2, 1) := by decide +kernel
theorem dX8_whyNotPart_29 : decode cX8_whyNotPart 29 = .ok (.if_icmp .ne 8, 3) := by decide +kernel
theorem dX8_whyNotPart_32 : decode cX8_whyNotPart 32 = .ok (.bipush 99, 2) := by decide +kernel
theorem dX8_whyNotPart_34 : decode cX8_whyNotPart 34 = .ok (.goto 5, 3) := by decide +kernel
theorem dX8_whyNotPart_37 : decode cX8_whyNotPart 37 = .ok (.bipush 9, 2) := by decide +kernel
theorem dX8_whyNotPart_39 : decode cX8_whyNotPart 39 = .ok (.invokestatic 26, 3) := by decide +kernel
theorem dX8_whyNotPart_42 : decode cX8_whyNotPart 42 = .ok (.ifCond .eq 7, 3) := by decide +kernel
theorem dX8_whyNotPart_45 : decode cX8_whyNotPart 45 = .ok (.iconst 1, 1) := by decide +kernel
theorem dX8_whyNotPart_46 : decode cX8_whyNotPart 46 = .ok (.goto 4, 3) := by decide +kernel
theorem dX8_whyNotPart_49 : decode cX8_whyNotPart 49 = .ok (.iconst 0, 1) := by decide +kernel
theorem dX8_whyNotPart_50 : decode cX8_whyNotPart 50 = .ok (.istore 4, 2) := by decide +kernel
theorem dX8_whyNotPart_52 : decode cX8_whyNotPart 52 = .ok (.iload 4, 2) := by decide +kernel
theorem dX8_whyNotPart_54 : decode cX8_whyNotPart 54 = .ok (.ifCond .ne 8, 3) := by decide +kernel
theorem dX8_whyNotPart_57 : decode cX8_whyNotPart 57 = .ok (.bipush (-2), 2) := by decide +kernel
theorem dX8_whyNotPart_59 : decode cX8_whyNotPart 59 = .ok (.goto 20, 3) := by decide +kernel
theorem dX8_whyNotPart_62 : decode cX8_whyNotPart 62 = .ok (.aload_n 0, 1) := by decide +kernel
theorem dX8_whyNotPart_63 : decode cX8_whyNotPart 63 = .ok (.getfield 7, 3) := by decide +kernel
theorem dX8_whyNotPart_66 : decode cX8_whyNotPart 66 = .ok (.iconst 4, 1) := by decide +kernel
theorem dX8_whyNotPart_67 : decode cX8_whyNotPart 67 = .ok (.iaload, 1) := by decide +kernel
theorem dX8_whyNotPart_68 : decode cX8_whyNotPart 68 = .ok (.bipush 20, 2) := by decide +kernel
theorem dX8_whyNotPart_70 : decode cX8_whyNotPart 70 = .ok (.if_icmp .ne 8, 3) := by decide +kernel
theorem dX8_whyNotPart_73 : decode cX8_whyNotPart 73 = .ok (.bipush (-4), 2) := by decide +kernel
theorem dX8_whyNotPart_75 : decode cX8_whyNotPart 75 = .ok (.goto 4, 3) := by decide +kernel
theorem dX8_whyNotPart_78 : decode cX8_whyNotPart 78 = .ok (.iconst 0, 1) := by decide +kernel
theorem dX8_whyNotPart_79 : decode cX8_whyNotPart 79 = .ok (.ireturn, 1) := by decide +kernel
theorem dX8_comes_0 : decode cX8_comes 0 = .ok (.iconst 0, 1) := by decide +kernel
theorem dX8_comes_1 : decode cX8_comes 1 = .ok (.aload_n 0, 1) := by decide +kernel
theorem dX8_comes_2 : decode cX8_comes 2 = .ok (.getfield 7, 3) := by decide +kernel
theorem dX8_comes_5 : decode cX8_comes 5 = .ok (.iconst 4, 1) := by decide +kernel
theorem dX8_comes_6 : decode cX8_comes 6 = .ok (.iaload, 1) := by decide +kernel
theorem dX8_comes_7 : decode cX8_comes 7 = .ok (.invokestatic 42, 3) := by decide +kernel
theorem dX8_comes_10 : decode cX8_comes 10 = .ok (.iconst 1, 1) := by decide +kernel
theorem dX8_comes_11 : decode cX8_comes 11 = .ok (.isub, 1) := by decide +kernel
theorem dX8_comes_12 : decode cX8_comes 12 = .ok (.istore 4, 2) := by decide +kernel
theorem dX8_comes_14 : decode cX8_comes 14 = .ok (.iload 4, 2) := by decide +kernel
theorem dX8_comes_16 : decode cX8_comes 16 = .ok (.iconst 0, 1) := by decide +kernel
theorem dX8_comes_17 : decode cX8_comes 17 = .ok (.iload_n 1, 1) := by decide +kernel
theorem dX8_comes_18 : decode cX8_comes 18 = .ok (.invokestatic 42, 3) := by decide +kernel
theorem dX8_comes_21 : decode cX8_comes 21 = .ok (.if_icmp .lt 25, 3) := by decide +kernel
theorem dX8_comes_24 : decode cX8_comes 24 = .ok (.aload_n 0, 1) := by decide +kernel
theorem dX8_comes_25 : decode cX8_comes 25 = .ok (.getfield 7, 3) := by decide +kernel
theorem dX8_comes_28 : decode cX8_comes 28 = .ok (.iload 4, 2) := by decide +kernel
theorem dX8_comes_30 : decode cX8_comes 30 = .ok (.iconst 5, 1) := by decide +kernel
theorem dX8_comes_31 : decode cX8_comes 31 = .ok (.iadd, 1) := by decide +kernel
theorem dX8_comes_32 : decode cX8_comes 32 = .ok (.aload_n 0, 1) := by decide +kernel
theorem dX8_comes_33 : decode cX8_comes 33 = .ok (.getfield 7, 3) := by decide +kernel
theorem dX8_comes_36 : decode cX8_comes 36 = .ok (.iload 4, 2) := by decide +kernel
theorem dX8_comes_38 : decode cX8_comes 38 = .ok (.iaload, 1) := by decide +kernel
theorem dX8_comes_39 : decode cX8_comes 39 = .ok (.iastore, 1) := by decide +kernel
theorem dX8_comes_40 : decode cX8_comes 40 = .ok (.iinc 4 (-1), 3) := by decide +kernel
theorem dX8_comes_43 : decode cX8_comes 43 = .ok (.goto (-29), 3) := by decide +kernel
theorem dX8_comes_46 : decode cX8_comes 46 = .ok (.aload_n 0, 1) := by decide +kernel
theorem dX8_comes_47 : decode cX8_comes 47 = .ok (.getfield 7, 3) := by decide +kernel
theorem dX8_comes_50 : decode cX8_comes 50 = .ok (.iconst 0, 1) := by decide +kernel
theorem dX8_comes_51 : decode cX8_comes 51 = .ok (.iload_n 1, 1) := by decide +kernel
theorem dX8_comes_52 : decode cX8_comes 52 = .ok (.invokestatic 42, 3) := by decide +kernel
theorem dX8_comes_55 : decode cX8_comes 55 = .ok (.iload_n 2, 1) := by decide +kernel
theorem dX8_comes_56 : decode cX8_comes 56 = .ok (.iastore, 1) := by decide +kernel
theorem dX8_comes_57 : decode cX8_comes 57 = .ok (.aload_n 0, 1) := by decide +kernel
theorem dX8_comes_58 : decode cX8_comes 58 = .ok (.getfield 7, 3) := by decide +kernel
theorem dX8_comes_61 : decode cX8_comes 61 = .ok (.iconst 0, 1) := by decide +kernel
theorem dX8_comes_62 : decode cX8_comes 62 = .ok (.iload_n 1, 1) := by decide +kernel
theorem dX8_comes_63 : decode cX8_comes 63 = .ok (.invokestatic 42, 3) := by decide +kernel
theorem dX8_comes_66 : decode cX8_comes 66 = .ok (.iconst 1, 1) := by decide +kernel
theorem dX8_comes_67 : decode cX8_comes 67 = .ok (.iadd, 1) := by decide +kernel
theorem dX8_comes_68 : decode cX8_comes 68 = .ok (.iload_n 3, 1) := by decide +kernel
theorem dX8_comes_69 : decode cX8_comes 69 = .ok (.iastore, 1) := by decide +kernel
theorem dX8_comes_70 : decode cX8_comes 70 = .ok (.iconst 2, 1) := by decide +kernel
theorem dX8_comes_71 : decode cX8_comes 71 = .ok (.istore 4, 2) := by decide +kernel
theorem dX8_comes_73 : decode cX8_comes 73 = .ok (.iload 4, 2) := by decide +kernel
theorem dX8_comes_75 : decode cX8_comes 75 = .ok (.iconst 5, 1) := by decide +kernel
theorem dX8_comes_76 : decode cX8_comes 76 = .ok (.if_icmp .ge 23, 3) := by decide +kernel
theorem dX8_comes_79 : decode cX8_comes 79 = .ok (.aload_n 0, 1) := by decide +kernel
theorem dX8_comes_80 : decode cX8_comes 80 = .ok (.getfield 7, 3) := by decide +kernel
theorem dX8_comes_83 : decode cX8_comes 83 = .ok (.iconst 0, 1) := by decide +kernel
theorem dX8_comes_84 : decode cX8_comes 84 = .ok (.iload_n 1, 1) := by decide +kernel
theorem dX8_comes_85 : decode cX8_comes 85 = .ok (.invokestatic 42, 3) := by decide +kernel
theorem dX8_comes_88 : decode cX8_comes 88 = .ok (.iload 4, 2) := by decide +kernel
theorem dX8_comes_90 : decode cX8_comes 90 = .ok (.iadd, 1) := by decide +kernel
theorem dX8_comes_91 : decode cX8_comes 91 = .ok (.iconst 0, 1) := by decide +kernel
theorem dX8_comes_92 : decode cX8_comes 92 = .ok (.iastore, 1) := by decide +kernel
theorem dX8_comes_93 : decode cX8_comes 93 = .ok (.iinc 4 1, 3) := by decide +kernel
theorem dX8_comes_96 : decode cX8_comes 96 = .ok (.goto (-23), 3) := by decide +kernel
theorem dX8_comes_99 : decode cX8_comes 99 = .ok (.aload_n 0, 1) := by decide +kernel
theorem dX8_comes_100 : decode cX8_comes 100 = .ok (.getfield 7, 3) := by decide +kernel
theorem dX8_comes_103 : decode cX8_comes 103 = .ok (.iconst 4, 1) := by decide +kernel
theorem dX8_comes_104 : decode cX8_comes 104 = .ok (.dup2, 1) := by decide +kernel
theorem dX8_comes_105 : decode cX8_comes 105 = .ok (.iaload, 1) := by decide +kernel
theorem dX8_comes_106 : decode cX8_comes 106 = .ok (.iconst 1, 1) := by decide +kernel
theorem dX8_comes_107 : decode cX8_comes 107 = .ok (.iadd, 1) := by decide +kernel
theorem dX8_comes_108 : decode cX8_comes 108 = .ok (.iastore, 1) := by decide +kernel
theorem dX8_comes_109 : decode cX8_comes 109 = .ok (.aload_n 0, 1) := by decide +kernel
theorem dX8_comes_110 : decode cX8_comes 110 = .ok (.getfield 7, 3) := by decide +kernel
theorem dX8_comes_113 : decode cX8_comes 113 = .ok (.iconst 5, 1) := by decide +kernel
theorem dX8_comes_114 : decode cX8_comes 114 = .ok (.iconst 0, 1) := by decide +kernel
theorem dX8_comes_115 : decode cX8_comes 115 = .ok (.iastore, 1) := by decide +kernel
theorem dX8_comes_116 : decode cX8_comes 116 = .ok (.aload_n 0, 1) := by decide +kernel
theorem dX8_comes_117 : decode cX8_comes 117 = .ok (.getfield 7, 3) := by decide +kernel
theorem dX8_comes_120 : decode cX8_comes 120 = .ok (.iconst 4, 1) := by decide +kernel
theorem dX8_comes_121 : decode cX8_comes 121 = .ok (.iaload, 1) := by decide +kernel
theorem dX8_comes_122 : decode cX8_comes 122 = .ok (.ireturn, 1) := by decide +kernel
theorem dX8_part_0 : decode cX8_part 0 = .ok (.aload_n 0, 1) := by decide +kernel
theorem dX8_part_1 : decode cX8_part 1 = .ok (.iload_n 1, 1) := by decide +kernel
theorem dX8_part_2 : decode cX8_part 2 = .ok (.iload_n 2, 1) := by decide +kernel
theorem dX8_part_3 : decode cX8_part 3 = .ok (.iload_n 3, 1) := by decide +kernel
theorem dX8_part_4 : decode cX8_part 4 = .ok (.invokevirtual 72, 3) := by decide +kernel
theorem dX8_part_7 : decode cX8_part 7 = .ok (.istore 4, 2) := by decide +kernel
theorem dX8_part_9 : decode cX8_part 9 = .ok (.iload 4, 2) := by decide +kernel
theorem dX8_part_11 : decode cX8_part 11 = .ok (.ifCond .ge 6, 3) := by decide +kernel
theorem dX8_part_14 : decode cX8_part 14 = .ok (.iload 4, 2) := by decide +kernel
theorem dX8_part_16 : decode cX8_part 16 = .ok (.ireturn, 1) := by decide +kernel
theorem dX8_part_17 : decode cX8_part 17 = .ok (.aload_n 0, 1) := by decide +kernel
theorem dX8_part_18 : decode cX8_part 18 = .ok (.invokevirtual 69, 3) := by decide +kernel
theorem dX8_part_21 : decode cX8_part 21 = .ok (.aload_n 0, 1) := by decide +kernel
theorem dX8_part_22 : decode cX8_part 22 = .ok (.iload_n 1, 1) := by decide +kernel
theorem dX8_part_23 : decode cX8_part 23 = .ok (.iload_n 2, 1) := by decide +kernel
theorem dX8_part_24 : decode cX8_part 24 = .ok (.iload_n 3, 1) := by decide +kernel
theorem dX8_part_25 : decode cX8_part 25 = .ok (.invokevirtual 76, 3) := by decide +kernel
theorem dX8_part_28 : decode cX8_part 28 = .ok (.ireturn, 1) := by decide +kernel
end
section
/-! decode rows -/
theorem dX8_takeAway_0 : decode cX8_takeAway 0 = .ok (.aload_n 0, 1) := by decide +kernel
theorem dX8_takeAway_1 : decode cX8_takeAway 1 = .ok (.iload_n 1, 1) := by decide +kernel
theorem dX8_takeAway_2 : decode cX8_takeAway 2 = .ok (.invokevirtual 79, 3) := by decide +kernel
theorem dX8_takeAway_5 : decode cX8_takeAway 5 = .ok (.ifCond .ne 5, 3) := by decide +kernel
theorem dX8_takeAway_8 : decode cX8_takeAway 8 = .ok (.iconst (-1), 1) := by decide +kernel
theorem dX8_takeAway_9 : decode cX8_takeAway 9 = .ok (.ireturn, 1) := by decide +kernel
theorem dX8_takeAway_10 : decode cX8_takeAway 10 = .ok (.aload_n 0, 1) := by decide +kernel
theorem dX8_takeAway_11 : decode cX8_takeAway 11 = .ok (.invokevirtual 69, 3) := by decide +kernel
theorem dX8_takeAway_14 : decode cX8_takeAway 14 = .ok (.aload_n 0, 1) := by decide +kernel
theorem dX8_takeAway_15 : decode cX8_takeAway 15 = .ok (.getfield 7, 3) := by decide +kernel
theorem dX8_takeAway_18 : decode cX8_takeAway 18 = .ok (.iconst 4, 1) := by decide +kernel
theorem dX8_takeAway_19 : decode cX8_takeAway 19 = .ok (.dup2, 1) := by decide +kernel
theorem dX8_takeAway_20 : decode cX8_takeAway 20 = .ok (.iaload, 1) := by decide +kernel
theorem dX8_takeAway_21 : decode cX8_takeAway 21 = .ok (.iconst 1, 1) := by decide +kernel
theorem dX8_takeAway_22 : decode cX8_takeAway 22 = .ok (.isub, 1) := by decide +kernel
theorem dX8_takeAway_23 : decode cX8_takeAway 23 = .ok (.iastore, 1) := by decide +kernel
theorem dX8_takeAway_24 : decode cX8_takeAway 24 = .ok (.iconst 0, 1) := by decide +kernel
theorem dX8_takeAway_25 : decode cX8_takeAway 25 = .ok (.iload_n 1, 1) := by decide +kernel
theorem dX8_takeAway_26 : decode cX8_takeAway 26 = .ok (.invokestatic 42, 3) := by decide +kernel
theorem dX8_takeAway_29 : decode cX8_takeAway 29 = .ok (.istore_n 2, 1) := by decide +kernel
theorem dX8_takeAway_30 : decode cX8_takeAway 30 = .ok (.iload_n 2, 1) := by decide +kernel
theorem dX8_takeAway_31 : decode cX8_takeAway 31 = .ok (.iconst 0, 1) := by decide +kernel
theorem dX8_takeAway_32 : decode cX8_takeAway 32 = .ok (.aload_n 0, 1) := by decide +kernel
theorem dX8_takeAway_33 : decode cX8_takeAway 33 = .ok (.getfield 7, 3) := by decide +kernel
theorem dX8_takeAway_36 : decode cX8_takeAway 36 = .ok (.iconst 4, 1) := by decide +kernel
theorem dX8_takeAway_37 : decode cX8_takeAway 37 = .ok (.iaload, 1) := by decide +kernel
theorem dX8_takeAway_38 : decode cX8_takeAway 38 = .ok (.invokestatic 42, 3) := by decide +kernel
theorem dX8_takeAway_41 : decode cX8_takeAway 41 = .ok (.if_icmp .ge 23, 3) := by decide +kernel
theorem dX8_takeAway_44 : decode cX8_takeAway 44 = .ok (.aload_n 0, 1) := by decide +kernel
theorem dX8_takeAway_45 : decode cX8_takeAway 45 = .ok (.getfield 7, 3) := by decide +kernel
theorem dX8_takeAway_48 : decode cX8_takeAway 48 = .ok (.iload_n 2, 1) := by decide +kernel
theorem dX8_takeAway_49 : decode cX8_takeAway 49 = .ok (.aload_n 0, 1) := by decide +kernel
theorem dX8_takeAway_50 : decode cX8_takeAway 50 = .ok (.getfield 7, 3) := by decide +kernel
theorem dX8_takeAway_53 : decode cX8_takeAway 53 = .ok (.iload_n 2, 1) := by decide +kernel
theorem dX8_takeAway_54 : decode cX8_takeAway 54 = .ok (.iconst 5, 1) := by decide +kernel
theorem dX8_takeAway_55 : decode cX8_takeAway 55 = .ok (.iadd, 1) := by decide +kernel
theorem dX8_takeAway_56 : decode cX8_takeAway 56 = .ok (.iaload, 1) := by decide +kernel
theorem dX8_takeAway_57 : decode cX8_takeAway 57 = .ok (.iastore, 1) := by decide +kernel
theorem dX8_takeAway_58 : decode cX8_takeAway 58 = .ok (.iinc 2 1, 3) := by decide +kernel
theorem dX8_takeAway_61 : decode cX8_takeAway 61 = .ok (.goto (-31), 3) := by decide +kernel
theorem dX8_takeAway_64 : decode cX8_takeAway 64 = .ok (.aload_n 0, 1) := by decide +kernel
theorem dX8_takeAway_65 : decode cX8_takeAway 65 = .ok (.getfield 7, 3) := by decide +kernel
theorem dX8_takeAway_68 : decode cX8_takeAway 68 = .ok (.iconst 5, 1) := by decide +kernel
theorem dX8_takeAway_69 : decode cX8_takeAway 69 = .ok (.iconst 0, 1) := by decide +kernel
theorem dX8_takeAway_70 : decode cX8_takeAway 70 = .ok (.iastore, 1) := by decide +kernel
theorem dX8_takeAway_71 : decode cX8_takeAway 71 = .ok (.aload_n 0, 1) := by decide +kernel
theorem dX8_takeAway_72 : decode cX8_takeAway 72 = .ok (.getfield 7, 3) := by decide +kernel
theorem dX8_takeAway_75 : decode cX8_takeAway 75 = .ok (.iconst 4, 1) := by decide +kernel
theorem dX8_takeAway_76 : decode cX8_takeAway 76 = .ok (.iaload, 1) := by decide +kernel
theorem dX8_takeAway_77 : decode cX8_takeAway 77 = .ok (.ireturn, 1) := by decide +kernel
theorem dX8_hoop_0 : decode cX8_hoop 0 = .ok (.iload_n 1, 1) := by decide +kernel
theorem dX8_hoop_1 : decode cX8_hoop 1 = .ok (.iconst 1, 1) := by decide +kernel
theorem dX8_hoop_2 : decode cX8_hoop 2 = .ok (.bipush 60, 2) := by decide +kernel
theorem dX8_hoop_4 : decode cX8_hoop 4 = .ok (.invokestatic 26, 3) := by decide +kernel
theorem dX8_hoop_7 : decode cX8_hoop 7 = .ok (.ifCond .ne 6, 3) := by decide +kernel
theorem dX8_hoop_10 : decode cX8_hoop 10 = .ok (.bipush (-2), 2) := by decide +kernel
theorem dX8_hoop_12 : decode cX8_hoop 12 = .ok (.ireturn, 1) := by decide +kernel
theorem dX8_hoop_13 : decode cX8_hoop 13 = .ok (.aload_n 0, 1) := by decide +kernel
theorem dX8_hoop_14 : decode cX8_hoop 14 = .ok (.invokevirtual 69, 3) := by decide +kernel
theorem dX8_hoop_17 : decode cX8_hoop 17 = .ok (.aload_n 0, 1) := by decide +kernel
theorem dX8_hoop_18 : decode cX8_hoop 18 = .ok (.iconst 0, 1) := by decide +kernel
theorem dX8_hoop_19 : decode cX8_hoop 19 = .ok (.iload_n 1, 1) := by decide +kernel
theorem dX8_hoop_20 : decode cX8_hoop 20 = .ok (.invokevirtual 83, 3) := by decide +kernel
theorem dX8_hoop_23 : decode cX8_hoop 23 = .ok (.aload_n 0, 1) := by decide +kernel
theorem dX8_hoop_24 : decode cX8_hoop 24 = .ok (.getfield 7, 3) := by decide +kernel
theorem dX8_hoop_27 : decode cX8_hoop 27 = .ok (.bipush 14, 2) := by decide +kernel
theorem dX8_hoop_29 : decode cX8_hoop 29 = .ok (.iaload, 1) := by decide +kernel
theorem dX8_hoop_30 : decode cX8_hoop 30 = .ok (.ireturn, 1) := by decide +kernel
theorem dX8_whyNotRoll_0 : decode cX8_whyNotRoll 0 = .ok (.iload_n 1, 1) := by decide +kernel
theorem dX8_whyNotRoll_1 : decode cX8_whyNotRoll 1 = .ok (.iconst 1, 1) := by decide +kernel
theorem dX8_whyNotRoll_2 : decode cX8_whyNotRoll 2 = .ok (.bipush 20, 2) := by decide +kernel
theorem dX8_whyNotRoll_4 : decode cX8_whyNotRoll 4 = .ok (.invokestatic 26, 3) := by decide +kernel
theorem dX8_whyNotRoll_7 : decode cX8_whyNotRoll 7 = .ok (.ifCond .ne 8, 3) := by decide +kernel
theorem dX8_whyNotRoll_10 : decode cX8_whyNotRoll 10 = .ok (.bipush (-2), 2) := by decide +kernel
theorem dX8_whyNotRoll_12 : decode cX8_whyNotRoll 12 = .ok (.goto 16, 3) := by decide +kernel
theorem dX8_whyNotRoll_15 : decode cX8_whyNotRoll 15 = .ok (.aload_n 0, 1) := by decide +kernel
theorem dX8_whyNotRoll_16 : decode cX8_whyNotRoll 16 = .ok (.invokevirtual 86, 3) := by decide +kernel
theorem dX8_whyNotRoll_19 : decode cX8_whyNotRoll 19 = .ok (.ifCond .eq 7, 3) := by decide +kernel
theorem dX8_whyNotRoll_22 : decode cX8_whyNotRoll 22 = .ok (.iconst 0, 1) := by decide +kernel
theorem dX8_whyNotRoll_23 : decode cX8_whyNotRoll 23 = .ok (.goto 5, 3) := by decide +kernel
theorem dX8_whyNotRoll_26 : decode cX8_whyNotRoll 26 = .ok (.bipush (-5), 2) := by decide +kernel
theorem dX8_whyNotRoll_28 : decode cX8_whyNotRoll 28 = .ok (.ireturn, 1) := by decide +kernel
theorem dX8_roll_0 : decode cX8_roll 0 = .ok (.aload_n 0, 1) := by decide +kernel
theorem dX8_roll_1 : decode cX8_roll 1 = .ok (.iload_n 1, 1) := by decide +kernel
theorem dX8_roll_2 : decode cX8_roll 2 = .ok (.invokevirtual 90, 3) := by decide +kernel
theorem dX8_roll_5 : decode cX8_roll 5 = .ok (.istore_n 2, 1) := by decide +kernel
theorem dX8_roll_6 : decode cX8_roll 6 = .ok (.iload_n 2, 1) := by decide +kernel
theorem dX8_roll_7 : decode cX8_roll 7 = .ok (.ifCond .ge 5, 3) := by decide +kernel
theorem dX8_roll_10 : decode cX8_roll 10 = .ok (.iload_n 2, 1) := by decide +kernel
theorem dX8_roll_11 : decode cX8_roll 11 = .ok (.ireturn, 1) := by decide +kernel
theorem dX8_roll_12 : decode cX8_roll 12 = .ok (.aload_n 0, 1) := by decide +kernel
theorem dX8_roll_13 : decode cX8_roll 13 = .ok (.invokevirtual 69, 3) := by decide +kernel
theorem dX8_roll_16 : decode cX8_roll 16 = .ok (.aload_n 0, 1) := by decide +kernel
theorem dX8_roll_17 : decode cX8_roll 17 = .ok (.iconst 0, 1) := by decide +kernel
theorem dX8_roll_18 : decode cX8_roll 18 = .ok (.iload_n 1, 1) := by decide +kernel
theorem dX8_roll_19 : decode cX8_roll 19 = .ok (.invokevirtual 93, 3) := by decide +kernel
theorem dX8_roll_22 : decode cX8_roll 22 = .ok (.ireturn, 1) := by decide +kernel
theorem dX8_tap_0 : decode cX8_tap 0 = .ok (.iload_n 1, 1) := by decide +kernel
theorem dX8_tap_1 : decode cX8_tap 1 = .ok (.iconst 0, 1) := by decide +kernel
theorem dX8_tap_2 : decode cX8_tap 2 = .ok (.iconst 1, 1) := by decide +kernel
theorem dX8_tap_3 : decode cX8_tap 3 = .ok (.invokestatic 26, 3) := by decide +kernel
theorem dX8_tap_6 : decode cX8_tap 6 = .ok (.ifCond .ne 6, 3) := by decide +kernel
theorem dX8_tap_9 : decode cX8_tap 9 = .ok (.bipush (-2), 2) := by decide +kernel
theorem dX8_tap_11 : decode cX8_tap 11 = .ok (.ireturn, 1) := by decide +kernel
theorem dX8_tap_12 : decode cX8_tap 12 = .ok (.aload_n 0, 1) := by decide +kernel
theorem dX8_tap_13 : decode cX8_tap 13 = .ok (.invokevirtual 86, 3) := by decide +kernel
theorem dX8_tap_16 : decode cX8_tap 16 = .ok (.ifCond .ne 6, 3) := by decide +kernel
theorem dX8_tap_19 : decode cX8_tap 19 = .ok (.bipush (-5), 2) := by decide +kernel
theorem dX8_tap_21 : decode cX8_tap 21 = .ok (.ireturn, 1) := by decide +kernel
theorem dX8_tap_22 : decode cX8_tap 22 = .ok (.aload_n 0, 1) := by decide +kernel
theorem dX8_tap_23 : decode cX8_tap 23 = .ok (.invokevirtual 69, 3) := by decide +kernel
theorem dX8_tap_26 : decode cX8_tap 26 = .ok (.aload_n 0, 1) := by decide +kernel
theorem dX8_tap_27 : decode cX8_tap 27 = .ok (.iconst 0, 1) := by decide +kernel
theorem dX8_tap_28 : decode cX8_tap 28 = .ok (.iload_n 1, 1) := by decide +kernel
theorem dX8_tap_29 : decode cX8_tap 29 = .ok (.invokevirtual 96, 3) := by decide +kernel
theorem dX8_tap_32 : decode cX8_tap 32 = .ok (.aload_n 0, 1) := by decide +kernel
theorem dX8_tap_33 : decode cX8_tap 33 = .ok (.getfield 7, 3) := by decide +kernel
theorem dX8_tap_36 : decode cX8_tap 36 = .ok (.bipush 8, 2) := by decide +kernel
theorem dX8_tap_38 : decode cX8_tap 38 = .ok (.iaload, 1) := by decide +kernel
theorem dX8_tap_39 : decode cX8_tap 39 = .ok (.sipush 500, 3) := by decide +kernel
theorem dX8_tap_42 : decode cX8_tap 42 = .ok (.iadd, 1) := by decide +kernel
theorem dX8_tap_43 : decode cX8_tap 43 = .ok (.ireturn, 1) := by decide +kernel
theorem dX8_pushes_0 : decode cX8_pushes 0 = .ok (.aload_n 0, 1) := by decide +kernel
theorem dX8_pushes_1 : decode cX8_pushes 1 = .ok (.getfield 7, 3) := by decide +kernel
theorem dX8_pushes_4 : decode cX8_pushes 4 = .ok (.bipush 7, 2) := by decide +kernel
theorem dX8_pushes_6 : decode cX8_pushes 6 = .ok (.aload_n 0, 1) := by decide +kernel
theorem dX8_pushes_7 : decode cX8_pushes 7 = .ok (.getfield 7, 3) := by decide +kernel
theorem dX8_pushes_10 : decode cX8_pushes 10 = .ok (.bipush 7, 2) := by decide +kernel
theorem dX8_pushes_12 : decode cX8_pushes 12 = .ok (.iaload, 1) := by decide +kernel
theorem dX8_pushes_13 : decode cX8_pushes 13 = .ok (.iconst 5, 1) := by decide +kernel
theorem dX8_pushes_14 : decode cX8_pushes 14 = .ok (.iadd, 1) := by decide +kernel
theorem dX8_pushes_15 : decode cX8_pushes 15 = .ok (.bipush 99, 2) := by decide +kernel
theorem dX8_pushes_17 : decode cX8_pushes 17 = .ok (.invokestatic 34, 3) := by decide +kernel
theorem dX8_pushes_20 : decode cX8_pushes 20 = .ok (.iastore, 1) := by decide +kernel
theorem dX8_pushes_21 : decode cX8_pushes 21 = .ok (.aload_n 0, 1) := by decide +kernel
theorem dX8_pushes_22 : decode cX8_pushes 22 = .ok (.getfield 7, 3) := by decide +kernel
theorem dX8_pushes_25 : decode cX8_pushes 25 = .ok (.bipush 13, 2) := by decide +kernel
theorem dX8_pushes_27 : decode cX8_pushes 27 = .ok (.dup2, 1) := by decide +kernel
theorem dX8_pushes_28 : decode cX8_pushes 28 = .ok (.iaload, 1) := by decide +kernel
theorem dX8_pushes_29 : decode cX8_pushes 29 = .ok (.iconst 1, 1) := by decide +kernel
theorem dX8_pushes_30 : decode cX8_pushes 30 = .ok (.iadd, 1) := by decide +kernel
theorem dX8_pushes_31 : decode cX8_pushes 31 = .ok (.iastore, 1) := by decide +kernel
theorem dX8_pushes_32 : decode cX8_pushes 32 = .ok (.aload_n 0, 1) := by decide +kernel
theorem dX8_pushes_33 : decode cX8_pushes 33 = .ok (.getfield 7, 3) := by decide +kernel
theorem dX8_pushes_36 : decode cX8_pushes 36 = .ok (.bipush 7, 2) := by decide +kernel
theorem dX8_pushes_38 : decode cX8_pushes 38 = .ok (.iaload, 1) := by decide +kernel
theorem dX8_pushes_39 : decode cX8_pushes 39 = .ok (.ireturn, 1) := by decide +kernel
theorem dX8_push_0 : decode cX8_push 0 = .ok (.aload_n 0, 1) := by decide +kernel
theorem dX8_push_1 : decode cX8_push 1 = .ok (.invokevirtual 86, 3) := by decide +kernel
theorem dX8_push_4 : decode cX8_push 4 = .ok (.ifCond .ne 6, 3) := by decide +kernel
theorem dX8_push_7 : decode cX8_push 7 = .ok (.bipush (-5), 2) := by decide +kernel
theorem dX8_push_9 : decode cX8_push 9 = .ok (.ireturn, 1) := by decide +kernel
theorem dX8_push_10 : decode cX8_push 10 = .ok (.aload_n 0, 1) := by decide +kernel
theorem dX8_push_11 : decode cX8_push 11 = .ok (.invokevirtual 69, 3) := by decide +kernel
theorem dX8_push_14 : decode cX8_push 14 = .ok (.aload_n 0, 1) := by decide +kernel
theorem dX8_push_15 : decode cX8_push 15 = .ok (.invokevirtual 99, 3) := by decide +kernel
theorem dX8_push_18 : decode cX8_push 18 = .ok (.ireturn, 1) := by decide +kernel
theorem dX8_of_0 : decode cX8_of 0 = .ok (.aload_n 0, 1) := by decide +kernel
theorem dX8_of_1 : decode cX8_of 1 = .ok (.iload_n 1, 1) := by decide +kernel
theorem dX8_of_2 : decode cX8_of 2 = .ok (.invokevirtual 79, 3) := by decide +kernel
theorem dX8_of_5 : decode cX8_of 5 = .ok (.ifCond .ne 5, 3) := by decide +kernel
theorem dX8_of_8 : decode cX8_of 8 = .ok (.iconst (-1), 1) := by decide +kernel
theorem dX8_of_9 : decode cX8_of 9 = .ok (.ireturn, 1) := by decide +kernel
theorem dX8_of_10 : decode cX8_of 10 = .ok (.iload_n 2, 1) := by decide +kernel
theorem dX8_of_11 : decode cX8_of 11 = .ok (.iconst 0, 1) := by decide +kernel
theorem dX8_of_12 : decode cX8_of 12 = .ok (.iconst 4, 1) := by decide +kernel
theorem dX8_of_13 : decode cX8_of 13 = .ok (.invokestatic 26, 3) := by decide +kernel
theorem dX8_of_16 : decode cX8_of 16 = .ok (.ifCond .eq 18, 3) := by decide +kernel
theorem dX8_of_19 : decode cX8_of 19 = .ok (.aload_n 0, 1) := by decide +kernel
theorem dX8_of_20 : decode cX8_of 20 = .ok (.getfield 7, 3) := by decide +kernel
theorem dX8_of_23 : decode cX8_of 23 = .ok (.iconst 0, 1) := by decide +kernel
theorem dX8_of_24 : decode cX8_of 24 = .ok (.iload_n 1, 1) := by decide +kernel
theorem dX8_of_25 : decode cX8_of 25 = .ok (.invokestatic 42, 3) := by decide +kernel
theorem dX8_of_28 : decode cX8_of 28 = .ok (.iload_n 2, 1) := by decide +kernel
theorem dX8_of_29 : decode cX8_of 29 = .ok (.iadd, 1) := by decide +kernel
theorem dX8_of_30 : decode cX8_of 30 = .ok (.iaload, 1) := by decide +kernel
theorem dX8_of_31 : decode cX8_of 31 = .ok (.goto 5, 3) := by decide +kernel
theorem dX8_of_34 : decode cX8_of 34 = .ok (.bipush (-2), 2) := by decide +kernel
theorem dX8_of_36 : decode cX8_of 36 = .ok (.ireturn, 1) := by decide +kernel
theorem dX8_ofHoop_0 : decode cX8_ofHoop 0 = .ok (.iload_n 1, 1) := by decide +kernel
theorem dX8_ofHoop_1 : decode cX8_ofHoop 1 = .ok (.iconst 0, 1) := by decide +kernel
theorem dX8_ofHoop_2 : decode cX8_ofHoop 2 = .ok (.bipush 7, 2) := by decide +kernel
theorem dX8_ofHoop_4 : decode cX8_ofHoop 4 = .ok (.invokestatic 26, 3) := by decide +kernel
theorem dX8_ofHoop_7 : decode cX8_ofHoop 7 = .ok (.ifCond .ne 6, 3) := by decide +kernel
theorem dX8_ofHoop_10 : decode cX8_ofHoop 10 = .ok (.bipush (-2), 2) := by decide +kernel
theorem dX8_ofHoop_12 : decode cX8_ofHoop 12 = .ok (.ireturn, 1) := by decide +kernel
theorem dX8_ofHoop_13 : decode cX8_ofHoop 13 = .ok (.aload_n 0, 1) := by decide +kernel
theorem dX8_ofHoop_14 : decode cX8_ofHoop 14 = .ok (.getfield 7, 3) := by decide +kernel
theorem dX8_ofHoop_17 : decode cX8_ofHoop 17 = .ok (.iconst 5, 1) := by decide +kernel
theorem dX8_ofHoop_18 : decode cX8_ofHoop 18 = .ok (.iaload, 1) := by decide +kernel
theorem dX8_ofHoop_19 : decode cX8_ofHoop 19 = .ok (.ifCond .ne 6, 3) := by decide +kernel
theorem dX8_ofHoop_22 : decode cX8_ofHoop 22 = .ok (.bipush (-6), 2) := by decide +kernel
theorem dX8_ofHoop_24 : decode cX8_ofHoop 24 = .ok (.ireturn, 1) := by decide +kernel
theorem dX8_ofHoop_25 : decode cX8_ofHoop 25 = .ok (.iload_n 1, 1) := by decide +kernel
theorem dX8_ofHoop_26 : decode cX8_ofHoop 26 = .ok (.iconst 2, 1) := by decide +kernel
theorem dX8_ofHoop_27 : decode cX8_ofHoop 27 = .ok (.if_icmp .ne 17, 3) := by decide +kernel
theorem dX8_ofHoop_30 : decode cX8_ofHoop 30 = .ok (.aload_n 0, 1) := by decide +kernel
theorem dX8_ofHoop_31 : decode cX8_ofHoop 31 = .ok (.getfield 7, 3) := by decide +kernel
theorem dX8_ofHoop_34 : decode cX8_ofHoop 34 = .ok (.bipush 8, 2) := by decide +kernel
theorem dX8_ofHoop_36 : decode cX8_ofHoop 36 = .ok (.iaload, 1) := by decide +kernel
theorem dX8_ofHoop_37 : decode cX8_ofHoop 37 = .ok (.sipush 500, 3) := by decide +kernel
theorem dX8_ofHoop_40 : decode cX8_ofHoop 40 = .ok (.iadd, 1) := by decide +kernel
theorem dX8_ofHoop_41 : decode cX8_ofHoop 41 = .ok (.goto 12, 3) := by decide +kernel
theorem dX8_ofHoop_44 : decode cX8_ofHoop 44 = .ok (.aload_n 0, 1) := by decide +kernel
theorem dX8_ofHoop_45 : decode cX8_ofHoop 45 = .ok (.getfield 7, 3) := by decide +kernel
theorem dX8_ofHoop_48 : decode cX8_ofHoop 48 = .ok (.bipush 6, 2) := by decide +kernel
theorem dX8_ofHoop_50 : decode cX8_ofHoop 50 = .ok (.iload_n 1, 1) := by decide +kernel
theorem dX8_ofHoop_51 : decode cX8_ofHoop 51 = .ok (.iadd, 1) := by decide +kernel
theorem dX8_ofHoop_52 : decode cX8_ofHoop 52 = .ok (.iaload, 1) := by decide +kernel
theorem dX8_ofHoop_53 : decode cX8_ofHoop 53 = .ok (.ireturn, 1) := by decide +kernel
theorem dX8_run_0 : decode cX8_run 0 = .ok (.iload_n 1, 1) := by decide +kernel
theorem dX8_run_1 : decode cX8_run 1 = .ok (.iconst 0, 1) := by decide +kernel
theorem dX8_run_2 : decode cX8_run 2 = .ok (.aload_n 0, 1) := by decide +kernel
theorem dX8_run_3 : decode cX8_run 3 = .ok (.getfield 7, 3) := by decide +kernel
theorem dX8_run_6 : decode cX8_run 6 = .ok (.bipush 20, 2) := by decide +kernel
theorem dX8_run_8 : decode cX8_run 8 = .ok (.iaload, 1) := by decide +kernel
theorem dX8_run_9 : decode cX8_run 9 = .ok (.iconst 1, 1) := by decide +kernel
theorem dX8_run_10 : decode cX8_run 10 = .ok (.isub, 1) := by decide +kernel
theorem dX8_run_11 : decode cX8_run 11 = .ok (.invokestatic 26, 3) := by decide +kernel
theorem dX8_run_14 : decode cX8_run 14 = .ok (.ifCond .ne 5, 3) := by decide +kernel
theorem dX8_run_17 : decode cX8_run 17 = .ok (.iconst (-1), 1) := by decide +kernel
theorem dX8_run_18 : decode cX8_run 18 = .ok (.ireturn, 1) := by decide +kernel
theorem dX8_run_19 : decode cX8_run 19 = .ok (.iload_n 2, 1) := by decide +kernel
theorem dX8_run_20 : decode cX8_run 20 = .ok (.iconst 0, 1) := by decide +kernel
theorem dX8_run_21 : decode cX8_run 21 = .ok (.iconst 3, 1) := by decide +kernel
theorem dX8_run_22 : decode cX8_run 22 = .ok (.invokestatic 26, 3) := by decide +kernel
theorem dX8_run_25 : decode cX8_run 25 = .ok (.ifCond .eq 19, 3) := by decide +kernel
theorem dX8_run_28 : decode cX8_run 28 = .ok (.aload_n 0, 1) := by decide +kernel
theorem dX8_run_29 : decode cX8_run 29 = .ok (.getfield 7, 3) := by decide +kernel
theorem dX8_run_32 : decode cX8_run 32 = .ok (.bipush 21, 2) := by decide +kernel
theorem dX8_run_34 : decode cX8_run 34 = .ok (.iconst 4, 1) := by decide +kernel
theorem dX8_run_35 : decode cX8_run 35 = .ok (.iload_n 1, 1) := by decide +kernel
theorem dX8_run_36 : decode cX8_run 36 = .ok (.imul, 1) := by decide +kernel
theorem dX8_run_37 : decode cX8_run 37 = .ok (.iadd, 1) := by decide +kernel
theorem dX8_run_38 : decode cX8_run 38 = .ok (.iload_n 2, 1) := by decide +kernel
theorem dX8_run_39 : decode cX8_run 39 = .ok (.iadd, 1) := by decide +kernel
theorem dX8_run_40 : decode cX8_run 40 = .ok (.iaload, 1) := by decide +kernel
theorem dX8_run_41 : decode cX8_run 41 = .ok (.goto 5, 3) := by decide +kernel
theorem dX8_run_44 : decode cX8_run 44 = .ok (.bipush (-2), 2) := by decide +kernel
theorem dX8_run_46 : decode cX8_run 46 = .ok (.ireturn, 1) := by decide +kernel
theorem dX8_ofParts_0 : decode cX8_ofParts 0 = .ok (.iconst 0, 1) := by decide +kernel
theorem dX8_ofParts_1 : decode cX8_ofParts 1 = .ok (.istore_n 2, 1) := by decide +kernel
theorem dX8_ofParts_2 : decode cX8_ofParts 2 = .ok (.iconst 0, 1) := by decide +kernel
theorem dX8_ofParts_3 : decode cX8_ofParts 3 = .ok (.istore_n 3, 1) := by decide +kernel
theorem dX8_ofParts_4 : decode cX8_ofParts 4 = .ok (.iconst 0, 1) := by decide +kernel
theorem dX8_ofParts_5 : decode cX8_ofParts 5 = .ok (.istore 4, 2) := by decide +kernel
theorem dX8_ofParts_7 : decode cX8_ofParts 7 = .ok (.iload 4, 2) := by decide +kernel
theorem dX8_ofParts_9 : decode cX8_ofParts 9 = .ok (.aload_n 0, 1) := by decide +kernel
theorem dX8_ofParts_10 : decode cX8_ofParts 10 = .ok (.getfield 7, 3) := by decide +kernel
theorem dX8_ofParts_13 : decode cX8_ofParts 13 = .ok (.iconst 4, 1) := by decide +kernel
theorem dX8_ofParts_14 : decode cX8_ofParts 14 = .ok (.iaload, 1) := by decide +kernel
theorem dX8_ofParts_15 : decode cX8_ofParts 15 = .ok (.if_icmp .ge 78, 3) := by decide +kernel
theorem dX8_ofParts_18 : decode cX8_ofParts 18 = .ok (.aload_n 0, 1) := by decide +kernel
theorem dX8_ofParts_19 : decode cX8_ofParts 19 = .ok (.getfield 7, 3) := by decide +kernel
theorem dX8_ofParts_22 : decode cX8_ofParts 22 = .ok (.iconst 0, 1) := by decide +kernel
theorem dX8_ofParts_23 : decode cX8_ofParts 23 = .ok (.iload 4, 2) := by decide +kernel
theorem dX8_ofParts_25 : decode cX8_ofParts 25 = .ok (.invokestatic 42, 3) := by decide +kernel
theorem dX8_ofParts_28 : decode cX8_ofParts 28 = .ok (.iaload, 1) := by decide +kernel
theorem dX8_ofParts_29 : decode cX8_ofParts 29 = .ok (.istore 5, 2) := by decide +kernel
theorem dX8_ofParts_31 : decode cX8_ofParts 31 = .ok (.aload_n 0, 1) := by decide +kernel
theorem dX8_ofParts_32 : decode cX8_ofParts 32 = .ok (.getfield 7, 3) := by decide +kernel
theorem dX8_ofParts_35 : decode cX8_ofParts 35 = .ok (.iconst 0, 1) := by decide +kernel
theorem dX8_ofParts_36 : decode cX8_ofParts 36 = .ok (.iload 4, 2) := by decide +kernel
theorem dX8_ofParts_38 : decode cX8_ofParts 38 = .ok (.invokestatic 42, 3) := by decide +kernel
theorem dX8_ofParts_41 : decode cX8_ofParts 41 = .ok (.iconst 1, 1) := by decide +kernel
theorem dX8_ofParts_42 : decode cX8_ofParts 42 = .ok (.iadd, 1) := by decide +kernel
theorem dX8_ofParts_43 : decode cX8_ofParts 43 = .ok (.iaload, 1) := by decide +kernel
theorem dX8_ofParts_44 : decode cX8_ofParts 44 = .ok (.istore 6, 2) := by decide +kernel
theorem dX8_ofParts_46 : decode cX8_ofParts 46 = .ok (.iload_n 2, 1) := by decide +kernel
theorem dX8_ofParts_47 : decode cX8_ofParts 47 = .ok (.iload 5, 2) := by decide +kernel
theorem dX8_ofParts_49 : decode cX8_ofParts 49 = .ok (.iload_n 1, 1) := by decide +kernel
theorem dX8_ofParts_50 : decode cX8_ofParts 50 = .ok (.bipush 7, 2) := by decide +kernel
theorem dX8_ofParts_52 : decode cX8_ofParts 52 = .ok (.isub, 1) := by decide +kernel
theorem dX8_ofParts_53 : decode cX8_ofParts 53 = .ok (.if_icmp .ne 8, 3) := by decide +kernel
theorem dX8_ofParts_56 : decode cX8_ofParts 56 = .ok (.iload 6, 2) := by decide +kernel
theorem dX8_ofParts_58 : decode cX8_ofParts 58 = .ok (.goto 4, 3) := by decide +kernel
theorem dX8_ofParts_61 : decode cX8_ofParts 61 = .ok (.iconst 0, 1) := by decide +kernel
theorem dX8_ofParts_62 : decode cX8_ofParts 62 = .ok (.iadd, 1) := by decide +kernel
theorem dX8_ofParts_63 : decode cX8_ofParts 63 = .ok (.istore_n 2, 1) := by decide +kernel
theorem dX8_ofParts_64 : decode cX8_ofParts 64 = .ok (.iload 5, 2) := by decide +kernel
theorem dX8_ofParts_66 : decode cX8_ofParts 66 = .ok (.iconst 2, 1) := by decide +kernel
theorem dX8_ofParts_67 : decode cX8_ofParts 67 = .ok (.if_icmp .ne 18, 3) := by decide +kernel
theorem dX8_ofParts_70 : decode cX8_ofParts 70 = .ok (.iload_n 3, 1) := by decide +kernel
theorem dX8_ofParts_71 : decode cX8_ofParts 71 = .ok (.ifCond .eq 9, 3) := by decide +kernel
theorem dX8_ofParts_74 : decode cX8_ofParts 74 = .ok (.iload 6, 2) := by decide +kernel
theorem dX8_ofParts_76 : decode cX8_ofParts 76 = .ok (.iload_n 3, 1) := by decide +kernel
theorem dX8_ofParts_77 : decode cX8_ofParts 77 = .ok (.if_icmp .ge 8, 3) := by decide +kernel
theorem dX8_ofParts_80 : decode cX8_ofParts 80 = .ok (.iload 6, 2) := by decide +kernel
theorem dX8_ofParts_82 : decode cX8_ofParts 82 = .ok (.goto 4, 3) := by decide +kernel
theorem dX8_ofParts_85 : decode cX8_ofParts 85 = .ok (.iload_n 3, 1) := by decide +kernel
theorem dX8_ofParts_86 : decode cX8_ofParts 86 = .ok (.istore_n 3, 1) := by decide +kernel
theorem dX8_ofParts_87 : decode cX8_ofParts 87 = .ok (.iinc 4 1, 3) := by decide +kernel
theorem dX8_ofParts_90 : decode cX8_ofParts 90 = .ok (.goto (-83), 3) := by decide +kernel
theorem dX8_ofParts_93 : decode cX8_ofParts 93 = .ok (.iload_n 1, 1) := by decide +kernel
theorem dX8_ofParts_94 : decode cX8_ofParts 94 = .ok (.bipush 6, 2) := by decide +kernel
theorem dX8_ofParts_96 : decode cX8_ofParts 96 = .ok (.if_icmp .ne 7, 3) := by decide +kernel
theorem dX8_ofParts_99 : decode cX8_ofParts 99 = .ok (.iload_n 3, 1) := by decide +kernel
theorem dX8_ofParts_100 : decode cX8_ofParts 100 = .ok (.goto 4, 3) := by decide +kernel
theorem dX8_ofParts_103 : decode cX8_ofParts 103 = .ok (.iload_n 2, 1) := by decide +kernel
theorem dX8_ofParts_104 : decode cX8_ofParts 104 = .ok (.ireturn, 1) := by decide +kernel
theorem dX8_count_0 : decode cX8_count 0 = .ok (.iload_n 1, 1) := by decide +kernel
theorem dX8_count_1 : decode cX8_count 1 = .ok (.tableswitch 130 0 15 #[79, 86, 94, 94, 94, 94, 106, 106, 106, 112, 130, 130, 130, 130, 120, 125], 79) := by decide +kernel
theorem dX8_count_80 : decode cX8_count 80 = .ok (.aload_n 0, 1) := by decide +kernel
theorem dX8_count_81 : decode cX8_count 81 = .ok (.getfield 7, 3) := by decide +kernel
theorem dX8_count_84 : decode cX8_count 84 = .ok (.iconst 4, 1) := by decide +kernel
theorem dX8_count_85 : decode cX8_count 85 = .ok (.iaload, 1) := by decide +kernel
theorem dX8_count_86 : decode cX8_count 86 = .ok (.ireturn, 1) := by decide +kernel
theorem dX8_count_87 : decode cX8_count 87 = .ok (.aload_n 0, 1) := by decide +kernel
theorem dX8_count_88 : decode cX8_count 88 = .ok (.getfield 7, 3) := by decide +kernel
theorem dX8_count_91 : decode cX8_count 91 = .ok (.bipush 14, 2) := by decide +kernel
theorem dX8_count_93 : decode cX8_count 93 = .ok (.iaload, 1) := by decide +kernel
theorem dX8_count_94 : decode cX8_count 94 = .ok (.ireturn, 1) := by decide +kernel
theorem dX8_count_95 : decode cX8_count 95 = .ok (.aload_n 0, 1) := by decide +kernel
theorem dX8_count_96 : decode cX8_count 96 = .ok (.getfield 7, 3) := by decide +kernel
theorem dX8_count_99 : decode cX8_count 99 = .ok (.bipush 15, 2) := by decide +kernel
theorem dX8_count_101 : decode cX8_count 101 = .ok (.iload_n 1, 1) := by decide +kernel
theorem dX8_count_102 : decode cX8_count 102 = .ok (.iadd, 1) := by decide +kernel
theorem dX8_count_103 : decode cX8_count 103 = .ok (.iconst 2, 1) := by decide +kernel
theorem dX8_count_104 : decode cX8_count 104 = .ok (.isub, 1) := by decide +kernel
theorem dX8_count_105 : decode cX8_count 105 = .ok (.iaload, 1) := by decide +kernel
theorem dX8_count_106 : decode cX8_count 106 = .ok (.ireturn, 1) := by decide +kernel
theorem dX8_count_107 : decode cX8_count 107 = .ok (.aload_n 0, 1) := by decide +kernel
theorem dX8_count_108 : decode cX8_count 108 = .ok (.iload_n 1, 1) := by decide +kernel
theorem dX8_count_109 : decode cX8_count 109 = .ok (.invokevirtual 103, 3) := by decide +kernel
theorem dX8_count_112 : decode cX8_count 112 = .ok (.ireturn, 1) := by decide +kernel
theorem dX8_count_113 : decode cX8_count 113 = .ok (.aload_n 0, 1) := by decide +kernel
theorem dX8_count_114 : decode cX8_count 114 = .ok (.getfield 7, 3) := by decide +kernel
theorem dX8_count_117 : decode cX8_count 117 = .ok (.bipush 19, 2) := by decide +kernel
theorem dX8_count_119 : decode cX8_count 119 = .ok (.iaload, 1) := by decide +kernel
theorem dX8_count_120 : decode cX8_count 120 = .ok (.ireturn, 1) := by decide +kernel
theorem dX8_count_121 : decode cX8_count 121 = .ok (.aload_n 0, 1) := by decide +kernel
theorem dX8_count_122 : decode cX8_count 122 = .ok (.getfield 106, 3) := by decide +kernel
theorem dX8_count_125 : decode cX8_count 125 = .ok (.ireturn, 1) := by decide +kernel
theorem dX8_count_126 : decode cX8_count 126 = .ok (.aload_n 0, 1) := by decide +kernel
theorem dX8_count_127 : decode cX8_count 127 = .ok (.getfield 30, 3) := by decide +kernel
theorem dX8_count_130 : decode cX8_count 130 = .ok (.ireturn, 1) := by decide +kernel
theorem dX8_count_131 : decode cX8_count 131 = .ok (.iload_n 1, 1) := by decide +kernel
theorem dX8_count_132 : decode cX8_count 132 = .ok (.bipush 10, 2) := by decide +kernel
theorem dX8_count_134 : decode cX8_count 134 = .ok (.bipush 13, 2) := by decide +kernel
theorem dX8_count_136 : decode cX8_count 136 = .ok (.invokestatic 26, 3) := by decide +kernel
theorem dX8_count_139 : decode cX8_count 139 = .ok (.ifCond .eq 15, 3) := by decide +kernel
theorem dX8_count_142 : decode cX8_count 142 = .ok (.aload_n 0, 1) := by decide +kernel
theorem dX8_count_143 : decode cX8_count 143 = .ok (.getfield 7, 3) := by decide +kernel
theorem dX8_count_146 : decode cX8_count 146 = .ok (.iload_n 1, 1) := by decide +kernel
theorem dX8_count_147 : decode cX8_count 147 = .ok (.bipush 10, 2) := by decide +kernel
theorem dX8_count_149 : decode cX8_count 149 = .ok (.isub, 1) := by decide +kernel
theorem dX8_count_150 : decode cX8_count 150 = .ok (.iaload, 1) := by decide +kernel
theorem dX8_count_151 : decode cX8_count 151 = .ok (.goto 5, 3) := by decide +kernel
theorem dX8_count_154 : decode cX8_count 154 = .ok (.bipush (-2), 2) := by decide +kernel
theorem dX8_count_156 : decode cX8_count 156 = .ok (.ireturn, 1) := by decide +kernel
theorem dX8_ifRolled_0 : decode cX8_ifRolled 0 = .ok (.iload_n 1, 1) := by decide +kernel
theorem dX8_ifRolled_1 : decode cX8_ifRolled 1 = .ok (.iconst 0, 1) := by decide +kernel
theorem dX8_ifRolled_2 : decode cX8_ifRolled 2 = .ok (.iconst 3, 1) := by decide +kernel
theorem dX8_ifRolled_3 : decode cX8_ifRolled 3 = .ok (.invokestatic 26, 3) := by decide +kernel
theorem dX8_ifRolled_6 : decode cX8_ifRolled 6 = .ok (.ifCond .ne 6, 3) := by decide +kernel
theorem dX8_ifRolled_9 : decode cX8_ifRolled 9 = .ok (.bipush (-2), 2) := by decide +kernel
theorem dX8_ifRolled_11 : decode cX8_ifRolled 11 = .ok (.ireturn, 1) := by decide +kernel
theorem dX8_ifRolled_12 : decode cX8_ifRolled 12 = .ok (.aload_n 0, 1) := by decide +kernel
theorem dX8_ifRolled_13 : decode cX8_ifRolled 13 = .ok (.invokevirtual 86, 3) := by decide +kernel
theorem dX8_ifRolled_16 : decode cX8_ifRolled 16 = .ok (.ifCond .ne 6, 3) := by decide +kernel
theorem dX8_ifRolled_19 : decode cX8_ifRolled 19 = .ok (.bipush (-5), 2) := by decide +kernel
theorem dX8_ifRolled_21 : decode cX8_ifRolled 21 = .ok (.ireturn, 1) := by decide +kernel
theorem dX8_ifRolled_22 : decode cX8_ifRolled 22 = .ok (.aload_n 0, 1) := by decide +kernel
theorem dX8_ifRolled_23 : decode cX8_ifRolled 23 = .ok (.invokevirtual 109, 3) := by decide +kernel
theorem dX8_ifRolled_26 : decode cX8_ifRolled 26 = .ok (.aload_n 0, 1) := by decide +kernel
theorem dX8_ifRolled_27 : decode cX8_ifRolled 27 = .ok (.iconst 0, 1) := by decide +kernel
theorem dX8_ifRolled_28 : decode cX8_ifRolled 28 = .ok (.putfield 52, 3) := by decide +kernel
theorem dX8_ifRolled_31 : decode cX8_ifRolled 31 = .ok (.aload_n 0, 1) := by decide +kernel
theorem dX8_ifRolled_32 : decode cX8_ifRolled 32 = .ok (.sipush 161, 3) := by decide +kernel
theorem dX8_ifRolled_35 : decode cX8_ifRolled 35 = .ok (.bipush 21, 2) := by decide +kernel
theorem dX8_ifRolled_37 : decode cX8_ifRolled 37 = .ok (.invokevirtual 93, 3) := by decide +kernel
theorem dX8_ifRolled_40 : decode cX8_ifRolled 40 = .ok (.istore_n 2, 1) := by decide +kernel
theorem dX8_ifRolled_41 : decode cX8_ifRolled 41 = .ok (.iload_n 1, 1) := by decide +kernel
theorem dX8_ifRolled_42 : decode cX8_ifRolled 42 = .ok (.ifCond .ne 7, 3) := by decide +kernel
theorem dX8_ifRolled_45 : decode cX8_ifRolled 45 = .ok (.iload_n 2, 1) := by decide +kernel
theorem dX8_ifRolled_46 : decode cX8_ifRolled 46 = .ok (.goto 39, 3) := by decide +kernel
theorem dX8_ifRolled_49 : decode cX8_ifRolled 49 = .ok (.iload_n 1, 1) := by decide +kernel
theorem dX8_ifRolled_50 : decode cX8_ifRolled 50 = .ok (.iconst 1, 1) := by decide +kernel
theorem dX8_ifRolled_51 : decode cX8_ifRolled 51 = .ok (.if_icmp .ne 14, 3) := by decide +kernel
theorem dX8_ifRolled_54 : decode cX8_ifRolled 54 = .ok (.aload_n 0, 1) := by decide +kernel
theorem dX8_ifRolled_55 : decode cX8_ifRolled 55 = .ok (.getfield 7, 3) := by decide +kernel
theorem dX8_ifRolled_58 : decode cX8_ifRolled 58 = .ok (.sipush 171, 3) := by decide +kernel
theorem dX8_ifRolled_61 : decode cX8_ifRolled 61 = .ok (.iaload, 1) := by decide +kernel
theorem dX8_ifRolled_62 : decode cX8_ifRolled 62 = .ok (.goto 23, 3) := by decide +kernel
theorem dX8_ifRolled_65 : decode cX8_ifRolled 65 = .ok (.iload_n 1, 1) := by decide +kernel
theorem dX8_ifRolled_66 : decode cX8_ifRolled 66 = .ok (.iconst 2, 1) := by decide +kernel
theorem dX8_ifRolled_67 : decode cX8_ifRolled 67 = .ok (.if_icmp .ne 14, 3) := by decide +kernel
theorem dX8_ifRolled_70 : decode cX8_ifRolled 70 = .ok (.aload_n 0, 1) := by decide +kernel
theorem dX8_ifRolled_71 : decode cX8_ifRolled 71 = .ok (.getfield 7, 3) := by decide +kernel
theorem dX8_ifRolled_74 : decode cX8_ifRolled 74 = .ok (.sipush 168, 3) := by decide +kernel
theorem dX8_ifRolled_77 : decode cX8_ifRolled 77 = .ok (.iaload, 1) := by decide +kernel
theorem dX8_ifRolled_78 : decode cX8_ifRolled 78 = .ok (.goto 7, 3) := by decide +kernel
theorem dX8_ifRolled_81 : decode cX8_ifRolled 81 = .ok (.aload_n 0, 1) := by decide +kernel
theorem dX8_ifRolled_82 : decode cX8_ifRolled 82 = .ok (.getfield 52, 3) := by decide +kernel
theorem dX8_ifRolled_85 : decode cX8_ifRolled 85 = .ok (.ireturn, 1) := by decide +kernel
theorem dX8_widest_0 : decode cX8_widest 0 = .ok (.bipush 60, 2) := by decide +kernel
theorem dX8_widest_2 : decode cX8_widest 2 = .ok (.istore_n 1, 1) := by decide +kernel
theorem dX8_widest_3 : decode cX8_widest 3 = .ok (.iload_n 1, 1) := by decide +kernel
theorem dX8_widest_4 : decode cX8_widest 4 = .ok (.ifCond .le 36, 3) := by decide +kernel
theorem dX8_widest_7 : decode cX8_widest 7 = .ok (.aload_n 0, 1) := by decide +kernel
theorem dX8_widest_8 : decode cX8_widest 8 = .ok (.invokevirtual 109, 3) := by decide +kernel
theorem dX8_widest_11 : decode cX8_widest 11 = .ok (.aload_n 0, 1) := by decide +kernel
theorem dX8_widest_12 : decode cX8_widest 12 = .ok (.sipush 161, 3) := by decide +kernel
theorem dX8_widest_15 : decode cX8_widest 15 = .ok (.iload_n 1, 1) := by decide +kernel
theorem dX8_widest_16 : decode cX8_widest 16 = .ok (.invokevirtual 83, 3) := by decide +kernel
theorem dX8_widest_19 : decode cX8_widest 19 = .ok (.aload_n 0, 1) := by decide +kernel
theorem dX8_widest_20 : decode cX8_widest 20 = .ok (.sipush 161, 3) := by decide +kernel
theorem dX8_widest_23 : decode cX8_widest 23 = .ok (.bipush 21, 2) := by decide +kernel
theorem dX8_widest_25 : decode cX8_widest 25 = .ok (.invokevirtual 93, 3) := by decide +kernel
theorem dX8_widest_28 : decode cX8_widest 28 = .ok (.iconst 4, 1) := by decide +kernel
theorem dX8_widest_29 : decode cX8_widest 29 = .ok (.if_icmp .ne 5, 3) := by decide +kernel
theorem dX8_widest_32 : decode cX8_widest 32 = .ok (.iload_n 1, 1) := by decide +kernel
theorem dX8_widest_33 : decode cX8_widest 33 = .ok (.ireturn, 1) := by decide +kernel
theorem dX8_widest_34 : decode cX8_widest 34 = .ok (.iinc 1 (-1), 3) := by decide +kernel
theorem dX8_widest_37 : decode cX8_widest 37 = .ok (.goto (-34), 3) := by decide +kernel
theorem dX8_widest_40 : decode cX8_widest 40 = .ok (.bipush (-6), 2) := by decide +kernel
theorem dX8_widest_42 : decode cX8_widest 42 = .ok (.ireturn, 1) := by decide +kernel
theorem dX8_saves_0 : decode cX8_saves 0 = .ok (.iload_n 1, 1) := by decide +kernel
theorem dX8_saves_1 : decode cX8_saves 1 = .ok (.iconst 0, 1) := by decide +kernel
theorem dX8_saves_2 : decode cX8_saves 2 = .ok (.iconst 1, 1) := by decide +kernel
theorem dX8_saves_3 : decode cX8_saves 3 = .ok (.invokestatic 26, 3) := by decide +kernel
theorem dX8_saves_6 : decode cX8_saves 6 = .ok (.ifCond .ne 6, 3) := by decide +kernel
theorem dX8_saves_9 : decode cX8_saves 9 = .ok (.bipush (-2), 2) := by decide +kernel
theorem dX8_saves_11 : decode cX8_saves 11 = .ok (.ireturn, 1) := by decide +kernel
theorem dX8_saves_12 : decode cX8_saves 12 = .ok (.aload_n 0, 1) := by decide +kernel
theorem dX8_saves_13 : decode cX8_saves 13 = .ok (.invokevirtual 86, 3) := by decide +kernel
theorem dX8_saves_16 : decode cX8_saves 16 = .ok (.ifCond .ne 6, 3) := by decide +kernel
theorem dX8_saves_19 : decode cX8_saves 19 = .ok (.bipush (-5), 2) := by decide +kernel
theorem dX8_saves_21 : decode cX8_saves 21 = .ok (.ireturn, 1) := by decide +kernel
theorem dX8_saves_22 : decode cX8_saves 22 = .ok (.iconst 0, 1) := by decide +kernel
theorem dX8_saves_23 : decode cX8_saves 23 = .ok (.istore_n 2, 1) := by decide +kernel
theorem dX8_saves_24 : decode cX8_saves 24 = .ok (.iload_n 2, 1) := by decide +kernel
theorem dX8_saves_25 : decode cX8_saves 25 = .ok (.bipush 20, 2) := by decide +kernel
theorem dX8_saves_27 : decode cX8_saves 27 = .ok (.if_icmp .gt 49, 3) := by decide +kernel
theorem dX8_saves_30 : decode cX8_saves 30 = .ok (.aload_n 0, 1) := by decide +kernel
theorem dX8_saves_31 : decode cX8_saves 31 = .ok (.invokevirtual 109, 3) := by decide +kernel
theorem dX8_saves_34 : decode cX8_saves 34 = .ok (.iconst 0, 1) := by decide +kernel
theorem dX8_saves_35 : decode cX8_saves 35 = .ok (.istore_n 3, 1) := by decide +kernel
theorem dX8_saves_36 : decode cX8_saves 36 = .ok (.iload_n 3, 1) := by decide +kernel
theorem dX8_saves_37 : decode cX8_saves 37 = .ok (.iload_n 2, 1) := by decide +kernel
theorem dX8_saves_38 : decode cX8_saves 38 = .ok (.if_icmp .ge 17, 3) := by decide +kernel
theorem dX8_saves_41 : decode cX8_saves 41 = .ok (.aload_n 0, 1) := by decide +kernel
theorem dX8_saves_42 : decode cX8_saves 42 = .ok (.sipush 161, 3) := by decide +kernel
theorem dX8_saves_45 : decode cX8_saves 45 = .ok (.iload_n 1, 1) := by decide +kernel
theorem dX8_saves_46 : decode cX8_saves 46 = .ok (.invokevirtual 96, 3) := by decide +kernel
theorem dX8_saves_49 : decode cX8_saves 49 = .ok (.iinc 3 1, 3) := by decide +kernel
theorem dX8_saves_52 : decode cX8_saves 52 = .ok (.goto (-16), 3) := by decide +kernel
theorem dX8_saves_55 : decode cX8_saves 55 = .ok (.aload_n 0, 1) := by decide +kernel
theorem dX8_saves_56 : decode cX8_saves 56 = .ok (.sipush 161, 3) := by decide +kernel
theorem dX8_saves_59 : decode cX8_saves 59 = .ok (.bipush 21, 2) := by decide +kernel
theorem dX8_saves_61 : decode cX8_saves 61 = .ok (.invokevirtual 93, 3) := by decide +kernel
theorem dX8_saves_64 : decode cX8_saves 64 = .ok (.iconst 4, 1) := by decide +kernel
theorem dX8_saves_65 : decode cX8_saves 65 = .ok (.if_icmp .ne 5, 3) := by decide +kernel
theorem dX8_saves_68 : decode cX8_saves 68 = .ok (.iload_n 2, 1) := by decide +kernel
theorem dX8_saves_69 : decode cX8_saves 69 = .ok (.ireturn, 1) := by decide +kernel
theorem dX8_saves_70 : decode cX8_saves 70 = .ok (.iinc 2 1, 3) := by decide +kernel
theorem dX8_saves_73 : decode cX8_saves 73 = .ok (.goto (-49), 3) := by decide +kernel
theorem dX8_saves_76 : decode cX8_saves 76 = .ok (.bipush (-6), 2) := by decide +kernel
theorem dX8_saves_78 : decode cX8_saves 78 = .ok (.ireturn, 1) := by decide +kernel
theorem dX8_traced_0 : decode cX8_traced 0 = .ok (.aload_n 0, 1) := by decide +kernel
theorem dX8_traced_1 : decode cX8_traced 1 = .ok (.iload_n 2, 1) := by decide +kernel
theorem dX8_traced_2 : decode cX8_traced 2 = .ok (.invokevirtual 79, 3) := by decide +kernel
theorem dX8_traced_5 : decode cX8_traced 5 = .ok (.ifCond .ne 5, 3) := by decide +kernel
theorem dX8_traced_8 : decode cX8_traced 8 = .ok (.iconst (-1), 1) := by decide +kernel
theorem dX8_traced_9 : decode cX8_traced 9 = .ok (.ireturn, 1) := by decide +kernel
theorem dX8_traced_10 : decode cX8_traced 10 = .ok (.iload_n 1, 1) := by decide +kernel
theorem dX8_traced_11 : decode cX8_traced 11 = .ok (.iconst 1, 1) := by decide +kernel
theorem dX8_traced_12 : decode cX8_traced 12 = .ok (.bipush 60, 2) := by decide +kernel
theorem dX8_traced_14 : decode cX8_traced 14 = .ok (.invokestatic 26, 3) := by decide +kernel
theorem dX8_traced_17 : decode cX8_traced 17 = .ok (.ifCond .eq 12, 3) := by decide +kernel
theorem dX8_traced_20 : decode cX8_traced 20 = .ok (.iload_n 3, 1) := by decide +kernel
theorem dX8_traced_21 : decode cX8_traced 21 = .ok (.iconst 0, 1) := by decide +kernel
theorem dX8_traced_22 : decode cX8_traced 22 = .ok (.iconst 2, 1) := by decide +kernel
theorem dX8_traced_23 : decode cX8_traced 23 = .ok (.invokestatic 26, 3) := by decide +kernel
theorem dX8_traced_26 : decode cX8_traced 26 = .ok (.ifCond .ne 6, 3) := by decide +kernel
theorem dX8_traced_29 : decode cX8_traced 29 = .ok (.bipush (-2), 2) := by decide +kernel
theorem dX8_traced_31 : decode cX8_traced 31 = .ok (.ireturn, 1) := by decide +kernel
theorem dX8_traced_32 : decode cX8_traced 32 = .ok (.aload_n 0, 1) := by decide +kernel
theorem dX8_traced_33 : decode cX8_traced 33 = .ok (.invokevirtual 109, 3) := by decide +kernel
theorem dX8_traced_36 : decode cX8_traced 36 = .ok (.aload_n 0, 1) := by decide +kernel
theorem dX8_traced_37 : decode cX8_traced 37 = .ok (.sipush 161, 3) := by decide +kernel
theorem dX8_traced_40 : decode cX8_traced 40 = .ok (.iload_n 1, 1) := by decide +kernel
theorem dX8_traced_41 : decode cX8_traced 41 = .ok (.invokevirtual 83, 3) := by decide +kernel
theorem dX8_traced_44 : decode cX8_traced 44 = .ok (.aload_n 0, 1) := by decide +kernel
theorem dX8_traced_45 : decode cX8_traced 45 = .ok (.sipush 161, 3) := by decide +kernel
theorem dX8_traced_48 : decode cX8_traced 48 = .ok (.iload_n 2, 1) := by decide +kernel
theorem dX8_traced_49 : decode cX8_traced 49 = .ok (.iconst 1, 1) := by decide +kernel
theorem dX8_traced_50 : decode cX8_traced 50 = .ok (.iadd, 1) := by decide +kernel
theorem dX8_traced_51 : decode cX8_traced 51 = .ok (.invokevirtual 93, 3) := by decide +kernel
theorem dX8_traced_54 : decode cX8_traced 54 = .ok (.istore 4, 2) := by decide +kernel
theorem dX8_traced_56 : decode cX8_traced 56 = .ok (.iload 4, 2) := by decide +kernel
theorem dX8_traced_58 : decode cX8_traced 58 = .ok (.ifCond .eq 12, 3) := by decide +kernel
theorem dX8_traced_61 : decode cX8_traced 61 = .ok (.iload 4, 2) := by decide +kernel
theorem dX8_traced_63 : decode cX8_traced 63 = .ok (.iconst 4, 1) := by decide +kernel
theorem dX8_traced_64 : decode cX8_traced 64 = .ok (.if_icmp .eq 6, 3) := by decide +kernel
theorem dX8_traced_67 : decode cX8_traced 67 = .ok (.bipush (-6), 2) := by decide +kernel
theorem dX8_traced_69 : decode cX8_traced 69 = .ok (.ireturn, 1) := by decide +kernel
theorem dX8_traced_70 : decode cX8_traced 70 = .ok (.aload_n 0, 1) := by decide +kernel
theorem dX8_traced_71 : decode cX8_traced 71 = .ok (.getfield 7, 3) := by decide +kernel
theorem dX8_traced_74 : decode cX8_traced 74 = .ok (.sipush 168, 3) := by decide +kernel
theorem dX8_traced_77 : decode cX8_traced 77 = .ok (.iload_n 3, 1) := by decide +kernel
theorem dX8_traced_78 : decode cX8_traced 78 = .ok (.iadd, 1) := by decide +kernel
theorem dX8_traced_79 : decode cX8_traced 79 = .ok (.iaload, 1) := by decide +kernel
theorem dX8_traced_80 : decode cX8_traced 80 = .ok (.iload_n 3, 1) := by decide +kernel
theorem dX8_traced_81 : decode cX8_traced 81 = .ok (.iconst 1, 1) := by decide +kernel
theorem dX8_traced_82 : decode cX8_traced 82 = .ok (.if_icmp .ne 9, 3) := by decide +kernel
theorem dX8_traced_85 : decode cX8_traced 85 = .ok (.sipush 500, 3) := by decide +kernel
theorem dX8_traced_88 : decode cX8_traced 88 = .ok (.goto 4, 3) := by decide +kernel
theorem dX8_traced_91 : decode cX8_traced 91 = .ok (.iconst 0, 1) := by decide +kernel
theorem dX8_traced_92 : decode cX8_traced 92 = .ok (.iadd, 1) := by decide +kernel
theorem dX8_traced_93 : decode cX8_traced 93 = .ok (.ireturn, 1) := by decide +kernel
theorem dX8_put_0 : decode cX8_put 0 = .ok (.iconst 0, 1) := by decide +kernel
theorem dX8_put_1 : decode cX8_put 1 = .ok (.istore_n 3, 1) := by decide +kernel
theorem dX8_put_2 : decode cX8_put 2 = .ok (.iconst 1, 1) := by decide +kernel
theorem dX8_put_3 : decode cX8_put 3 = .ok (.istore 4, 2) := by decide +kernel
theorem dX8_put_5 : decode cX8_put 5 = .ok (.iconst 0, 1) := by decide +kernel
theorem dX8_put_6 : decode cX8_put 6 = .ok (.istore 5, 2) := by decide +kernel
theorem dX8_put_8 : decode cX8_put 8 = .ok (.iconst 0, 1) := by decide +kernel
theorem dX8_put_9 : decode cX8_put 9 = .ok (.istore 6, 2) := by decide +kernel
theorem dX8_put_11 : decode cX8_put 11 = .ok (.iload 6, 2) := by decide +kernel
theorem dX8_put_13 : decode cX8_put 13 = .ok (.bipush 8, 2) := by decide +kernel
theorem dX8_put_15 : decode cX8_put 15 = .ok (.if_icmp .ge 90, 3) := by decide +kernel
theorem dX8_put_18 : decode cX8_put 18 = .ok (.lload_n 1, 1) := by decide +kernel
theorem dX8_put_19 : decode cX8_put 19 = .ok (.bipush 8, 2) := by decide +kernel
theorem dX8_put_21 : decode cX8_put 21 = .ok (.iload 6, 2) := by decide +kernel
theorem dX8_put_23 : decode cX8_put 23 = .ok (.imul, 1) := by decide +kernel
theorem dX8_put_24 : decode cX8_put 24 = .ok (.lshr, 1) := by decide +kernel
theorem dX8_put_25 : decode cX8_put 25 = .ok (.ldc2_w 112, 3) := by decide +kernel
theorem dX8_put_28 : decode cX8_put 28 = .ok (.land, 1) := by decide +kernel
theorem dX8_put_29 : decode cX8_put 29 = .ok (.l2i, 1) := by decide +kernel
theorem dX8_put_30 : decode cX8_put 30 = .ok (.istore 7, 2) := by decide +kernel
theorem dX8_put_32 : decode cX8_put 32 = .ok (.iload 5, 2) := by decide +kernel
theorem dX8_put_34 : decode cX8_put 34 = .ok (.ifCond .ne 8, 3) := by decide +kernel
theorem dX8_put_37 : decode cX8_put 37 = .ok (.iload 7, 2) := by decide +kernel
theorem dX8_put_39 : decode cX8_put 39 = .ok (.ifCond .ne 7, 3) := by decide +kernel
theorem dX8_put_42 : decode cX8_put 42 = .ok (.iconst 1, 1) := by decide +kernel
theorem dX8_put_43 : decode cX8_put 43 = .ok (.goto 4, 3) := by decide +kernel
theorem dX8_put_46 : decode cX8_put 46 = .ok (.iconst 0, 1) := by decide +kernel
theorem dX8_put_47 : decode cX8_put 47 = .ok (.istore 5, 2) := by decide +kernel
theorem dX8_put_49 : decode cX8_put 49 = .ok (.iload 4, 2) := by decide +kernel
theorem dX8_put_51 : decode cX8_put 51 = .ok (.ifCond .eq 32, 3) := by decide +kernel
theorem dX8_put_54 : decode cX8_put 54 = .ok (.iload 5, 2) := by decide +kernel
theorem dX8_put_56 : decode cX8_put 56 = .ok (.ifCond .eq 11, 3) := by decide +kernel
theorem dX8_put_59 : decode cX8_put 59 = .ok (.iload 7, 2) := by decide +kernel
theorem dX8_put_61 : decode cX8_put 61 = .ok (.ifCond .ne 22, 3) := by decide +kernel
theorem dX8_put_64 : decode cX8_put 64 = .ok (.goto 15, 3) := by decide +kernel
theorem dX8_put_67 : decode cX8_put 67 = .ok (.iload 7, 2) := by decide +kernel
theorem dX8_put_69 : decode cX8_put 69 = .ok (.bipush 33, 2) := by decide +kernel
theorem dX8_put_71 : decode cX8_put 71 = .ok (.bipush 126, 2) := by decide +kernel
theorem dX8_put_73 : decode cX8_put 73 = .ok (.invokestatic 26, 3) := by decide +kernel
theorem dX8_put_76 : decode cX8_put 76 = .ok (.ifCond .eq 7, 3) := by decide +kernel
theorem dX8_put_79 : decode cX8_put 79 = .ok (.iconst 1, 1) := by decide +kernel
theorem dX8_put_80 : decode cX8_put 80 = .ok (.goto 4, 3) := by decide +kernel
theorem dX8_put_83 : decode cX8_put 83 = .ok (.iconst 0, 1) := by decide +kernel
theorem dX8_put_84 : decode cX8_put 84 = .ok (.istore 4, 2) := by decide +kernel
theorem dX8_put_86 : decode cX8_put 86 = .ok (.iload_n 3, 1) := by decide +kernel
theorem dX8_put_87 : decode cX8_put 87 = .ok (.iload 5, 2) := by decide +kernel
theorem dX8_put_89 : decode cX8_put 89 = .ok (.ifCond .eq 7, 3) := by decide +kernel
theorem dX8_put_92 : decode cX8_put 92 = .ok (.iconst 0, 1) := by decide +kernel
theorem dX8_put_93 : decode cX8_put 93 = .ok (.goto 4, 3) := by decide +kernel
theorem dX8_put_96 : decode cX8_put 96 = .ok (.iconst 1, 1) := by decide +kernel
theorem dX8_put_97 : decode cX8_put 97 = .ok (.iadd, 1) := by decide +kernel
theorem dX8_put_98 : decode cX8_put 98 = .ok (.istore_n 3, 1) := by decide +kernel
theorem dX8_put_99 : decode cX8_put 99 = .ok (.iinc 6 1, 3) := by decide +kernel
theorem dX8_put_102 : decode cX8_put 102 = .ok (.goto (-91), 3) := by decide +kernel
theorem dX8_put_105 : decode cX8_put 105 = .ok (.iload 4, 2) := by decide +kernel
theorem dX8_put_107 : decode cX8_put 107 = .ok (.ifCond .eq 7, 3) := by decide +kernel
theorem dX8_put_110 : decode cX8_put 110 = .ok (.iload_n 3, 1) := by decide +kernel
theorem dX8_put_111 : decode cX8_put 111 = .ok (.ifCond .ne 6, 3) := by decide +kernel
theorem dX8_put_114 : decode cX8_put 114 = .ok (.bipush (-2), 2) := by decide +kernel
theorem dX8_put_116 : decode cX8_put 116 = .ok (.ireturn, 1) := by decide +kernel
theorem dX8_put_117 : decode cX8_put 117 = .ok (.aload_n 0, 1) := by decide +kernel
theorem dX8_put_118 : decode cX8_put 118 = .ok (.getfield 106, 3) := by decide +kernel
theorem dX8_put_121 : decode cX8_put 121 = .ok (.iload_n 3, 1) := by decide +kernel
theorem dX8_put_122 : decode cX8_put 122 = .ok (.iadd, 1) := by decide +kernel
theorem dX8_put_123 : decode cX8_put 123 = .ok (.bipush 80, 2) := by decide +kernel
theorem dX8_put_125 : decode cX8_put 125 = .ok (.if_icmp .le 6, 3) := by decide +kernel
theorem dX8_put_128 : decode cX8_put 128 = .ok (.bipush (-4), 2) := by decide +kernel
theorem dX8_put_130 : decode cX8_put 130 = .ok (.ireturn, 1) := by decide +kernel
theorem dX8_put_131 : decode cX8_put 131 = .ok (.iload_n 3, 1) := by decide +kernel
theorem dX8_put_132 : decode cX8_put 132 = .ok (.iconst 1, 1) := by decide +kernel
theorem dX8_put_133 : decode cX8_put 133 = .ok (.isub, 1) := by decide +kernel
theorem dX8_put_134 : decode cX8_put 134 = .ok (.istore 6, 2) := by decide +kernel
theorem dX8_put_136 : decode cX8_put 136 = .ok (.iload 6, 2) := by decide +kernel
theorem dX8_put_138 : decode cX8_put 138 = .ok (.ifCond .lt 40, 3) := by decide +kernel
theorem dX8_put_141 : decode cX8_put 141 = .ok (.aload_n 0, 1) := by decide +kernel
theorem dX8_put_142 : decode cX8_put 142 = .ok (.getfield 23, 3) := by decide +kernel
theorem dX8_put_145 : decode cX8_put 145 = .ok (.aload_n 0, 1) := by decide +kernel
theorem dX8_put_146 : decode cX8_put 146 = .ok (.getfield 106, 3) := by decide +kernel
theorem dX8_put_149 : decode cX8_put 149 = .ok (.lload_n 1, 1) := by decide +kernel
theorem dX8_put_150 : decode cX8_put 150 = .ok (.bipush 8, 2) := by decide +kernel
theorem dX8_put_152 : decode cX8_put 152 = .ok (.iload 6, 2) := by decide +kernel
theorem dX8_put_154 : decode cX8_put 154 = .ok (.imul, 1) := by decide +kernel
theorem dX8_put_155 : decode cX8_put 155 = .ok (.lshr, 1) := by decide +kernel
theorem dX8_put_156 : decode cX8_put 156 = .ok (.ldc2_w 112, 3) := by decide +kernel
theorem dX8_put_159 : decode cX8_put 159 = .ok (.land, 1) := by decide +kernel
theorem dX8_put_160 : decode cX8_put 160 = .ok (.l2i, 1) := by decide +kernel
theorem dX8_put_161 : decode cX8_put 161 = .ok (.iastore, 1) := by decide +kernel
theorem dX8_put_162 : decode cX8_put 162 = .ok (.aload_n 0, 1) := by decide +kernel
theorem dX8_put_163 : decode cX8_put 163 = .ok (.dup, 1) := by decide +kernel
theorem dX8_put_164 : decode cX8_put 164 = .ok (.getfield 106, 3) := by decide +kernel
theorem dX8_put_167 : decode cX8_put 167 = .ok (.iconst 1, 1) := by decide +kernel
theorem dX8_put_168 : decode cX8_put 168 = .ok (.iadd, 1) := by decide +kernel
theorem dX8_put_169 : decode cX8_put 169 = .ok (.putfield 106, 3) := by decide +kernel
theorem dX8_put_172 : decode cX8_put 172 = .ok (.iinc 6 (-1), 3) := by decide +kernel
theorem dX8_put_175 : decode cX8_put 175 = .ok (.goto (-39), 3) := by decide +kernel
theorem dX8_put_178 : decode cX8_put 178 = .ok (.aload_n 0, 1) := by decide +kernel
theorem dX8_put_179 : decode cX8_put 179 = .ok (.getfield 106, 3) := by decide +kernel
theorem dX8_put_182 : decode cX8_put 182 = .ok (.ireturn, 1) := by decide +kernel
theorem dX8_wipe_0 : decode cX8_wipe 0 = .ok (.aload_n 0, 1) := by decide +kernel
theorem dX8_wipe_1 : decode cX8_wipe 1 = .ok (.getfield 106, 3) := by decide +kernel
theorem dX8_wipe_4 : decode cX8_wipe 4 = .ok (.istore_n 1, 1) := by decide +kernel
theorem dX8_wipe_5 : decode cX8_wipe 5 = .ok (.aload_n 0, 1) := by decide +kernel
theorem dX8_wipe_6 : decode cX8_wipe 6 = .ok (.iconst 0, 1) := by decide +kernel
theorem dX8_wipe_7 : decode cX8_wipe 7 = .ok (.putfield 106, 3) := by decide +kernel
theorem dX8_wipe_10 : decode cX8_wipe 10 = .ok (.iload_n 1, 1) := by decide +kernel
theorem dX8_wipe_11 : decode cX8_wipe 11 = .ok (.ireturn, 1) := by decide +kernel
theorem dX8_sign_0 : decode cX8_sign 0 = .ok (.iload_n 1, 1) := by decide +kernel
theorem dX8_sign_1 : decode cX8_sign 1 = .ok (.aload_n 0, 1) := by decide +kernel
theorem dX8_sign_2 : decode cX8_sign 2 = .ok (.getfield 106, 3) := by decide +kernel
theorem dX8_sign_5 : decode cX8_sign 5 = .ok (.if_icmp .ge 12, 3) := by decide +kernel
theorem dX8_sign_8 : decode cX8_sign 8 = .ok (.aload_n 0, 1) := by decide +kernel
theorem dX8_sign_9 : decode cX8_sign 9 = .ok (.getfield 23, 3) := by decide +kernel
theorem dX8_sign_12 : decode cX8_sign 12 = .ok (.iload_n 1, 1) := by decide +kernel
theorem dX8_sign_13 : decode cX8_sign 13 = .ok (.iaload, 1) := by decide +kernel
theorem dX8_sign_14 : decode cX8_sign 14 = .ok (.goto 4, 3) := by decide +kernel
theorem dX8_sign_17 : decode cX8_sign 17 = .ok (.iconst (-1), 1) := by decide +kernel
theorem dX8_sign_18 : decode cX8_sign 18 = .ok (.ireturn, 1) := by decide +kernel
theorem dX8_digit_0 : decode cX8_digit 0 = .ok (.aload_n 0, 1) := by decide +kernel
theorem dX8_digit_1 : decode cX8_digit 1 = .ok (.iload_n 1, 1) := by decide +kernel
theorem dX8_digit_2 : decode cX8_digit 2 = .ok (.invokevirtual 114, 3) := by decide +kernel
theorem dX8_digit_5 : decode cX8_digit 5 = .ok (.bipush 48, 2) := by decide +kernel
theorem dX8_digit_7 : decode cX8_digit 7 = .ok (.bipush 57, 2) := by decide +kernel
theorem dX8_digit_9 : decode cX8_digit 9 = .ok (.invokestatic 26, 3) := by decide +kernel
theorem dX8_digit_12 : decode cX8_digit 12 = .ok (.ifCond .eq 14, 3) := by decide +kernel
theorem dX8_digit_15 : decode cX8_digit 15 = .ok (.aload_n 0, 1) := by decide +kernel
theorem dX8_digit_16 : decode cX8_digit 16 = .ok (.iload_n 1, 1) := by decide +kernel
theorem dX8_digit_17 : decode cX8_digit 17 = .ok (.invokevirtual 114, 3) := by decide +kernel
theorem dX8_digit_20 : decode cX8_digit 20 = .ok (.bipush 48, 2) := by decide +kernel
theorem dX8_digit_22 : decode cX8_digit 22 = .ok (.isub, 1) := by decide +kernel
theorem dX8_digit_23 : decode cX8_digit 23 = .ok (.goto 4, 3) := by decide +kernel
theorem dX8_digit_26 : decode cX8_digit 26 = .ok (.iconst (-1), 1) := by decide +kernel
theorem dX8_digit_27 : decode cX8_digit 27 = .ok (.ireturn, 1) := by decide +kernel
theorem dX8_numberEnd_0 : decode cX8_numberEnd 0 = .ok (.aload_n 0, 1) := by decide +kernel
theorem dX8_numberEnd_1 : decode cX8_numberEnd 1 = .ok (.iload_n 1, 1) := by decide +kernel
theorem dX8_numberEnd_2 : decode cX8_numberEnd 2 = .ok (.invokevirtual 117, 3) := by decide +kernel
theorem dX8_numberEnd_5 : decode cX8_numberEnd 5 = .ok (.ifCond .ge 7, 3) := by decide +kernel
theorem dX8_numberEnd_8 : decode cX8_numberEnd 8 = .ok (.iconst (-1), 1) := by decide +kernel
theorem dX8_numberEnd_9 : decode cX8_numberEnd 9 = .ok (.iload_n 1, 1) := by decide +kernel
theorem dX8_numberEnd_10 : decode cX8_numberEnd 10 = .ok (.isub, 1) := by decide +kernel
theorem dX8_numberEnd_11 : decode cX8_numberEnd 11 = .ok (.ireturn, 1) := by decide +kernel
theorem dX8_numberEnd_12 : decode cX8_numberEnd 12 = .ok (.aload_n 0, 1) := by decide +kernel
theorem dX8_numberEnd_13 : decode cX8_numberEnd 13 = .ok (.iload_n 1, 1) := by decide +kernel
theorem dX8_numberEnd_14 : decode cX8_numberEnd 14 = .ok (.invokevirtual 117, 3) := by decide +kernel
theorem dX8_numberEnd_17 : decode cX8_numberEnd 17 = .ok (.ifCond .le 19, 3) := by decide +kernel
theorem dX8_numberEnd_20 : decode cX8_numberEnd 20 = .ok (.aload_n 0, 1) := by decide +kernel
theorem dX8_numberEnd_21 : decode cX8_numberEnd 21 = .ok (.iload_n 1, 1) := by decide +kernel
theorem dX8_numberEnd_22 : decode cX8_numberEnd 22 = .ok (.iconst 1, 1) := by decide +kernel
theorem dX8_numberEnd_23 : decode cX8_numberEnd 23 = .ok (.iadd, 1) := by decide +kernel
theorem dX8_numberEnd_24 : decode cX8_numberEnd 24 = .ok (.invokevirtual 117, 3) := by decide +kernel
theorem dX8_numberEnd_27 : decode cX8_numberEnd 27 = .ok (.ifCond .lt 9, 3) := by decide +kernel
theorem dX8_numberEnd_30 : decode cX8_numberEnd 30 = .ok (.iload_n 1, 1) := by decide +kernel
theorem dX8_numberEnd_31 : decode cX8_numberEnd 31 = .ok (.iconst 2, 1) := by decide +kernel
theorem dX8_numberEnd_32 : decode cX8_numberEnd 32 = .ok (.iadd, 1) := by decide +kernel
theorem dX8_numberEnd_33 : decode cX8_numberEnd 33 = .ok (.goto 6, 3) := by decide +kernel
theorem dX8_numberEnd_36 : decode cX8_numberEnd 36 = .ok (.iload_n 1, 1) := by decide +kernel
theorem dX8_numberEnd_37 : decode cX8_numberEnd 37 = .ok (.iconst 1, 1) := by decide +kernel
theorem dX8_numberEnd_38 : decode cX8_numberEnd 38 = .ok (.iadd, 1) := by decide +kernel
theorem dX8_numberEnd_39 : decode cX8_numberEnd 39 = .ok (.ireturn, 1) := by decide +kernel
theorem dX8_numberAt_0 : decode cX8_numberAt 0 = .ok (.aload_n 0, 1) := by decide +kernel
theorem dX8_numberAt_1 : decode cX8_numberAt 1 = .ok (.iload_n 1, 1) := by decide +kernel
theorem dX8_numberAt_2 : decode cX8_numberAt 2 = .ok (.invokevirtual 120, 3) := by decide +kernel
theorem dX8_numberAt_5 : decode cX8_numberAt 5 = .ok (.iload_n 1, 1) := by decide +kernel
theorem dX8_numberAt_6 : decode cX8_numberAt 6 = .ok (.iconst 1, 1) := by decide +kernel
theorem dX8_numberAt_7 : decode cX8_numberAt 7 = .ok (.iadd, 1) := by decide +kernel
theorem dX8_numberAt_8 : decode cX8_numberAt 8 = .ok (.if_icmp .ne 11, 3) := by decide +kernel
theorem dX8_numberAt_11 : decode cX8_numberAt 11 = .ok (.aload_n 0, 1) := by decide +kernel
theorem dX8_numberAt_12 : decode cX8_numberAt 12 = .ok (.iload_n 1, 1) := by decide +kernel
theorem dX8_numberAt_13 : decode cX8_numberAt 13 = .ok (.invokevirtual 117, 3) := by decide +kernel
theorem dX8_numberAt_16 : decode cX8_numberAt 16 = .ok (.goto 19, 3) := by decide +kernel
theorem dX8_numberAt_19 : decode cX8_numberAt 19 = .ok (.bipush 10, 2) := by decide +kernel
theorem dX8_numberAt_21 : decode cX8_numberAt 21 = .ok (.aload_n 0, 1) := by decide +kernel
theorem dX8_numberAt_22 : decode cX8_numberAt 22 = .ok (.iload_n 1, 1) := by decide +kernel
theorem dX8_numberAt_23 : decode cX8_numberAt 23 = .ok (.invokevirtual 117, 3) := by decide +kernel
theorem dX8_numberAt_26 : decode cX8_numberAt 26 = .ok (.imul, 1) := by decide +kernel
theorem dX8_numberAt_27 : decode cX8_numberAt 27 = .ok (.aload_n 0, 1) := by decide +kernel
theorem dX8_numberAt_28 : decode cX8_numberAt 28 = .ok (.iload_n 1, 1) := by decide +kernel
theorem dX8_numberAt_29 : decode cX8_numberAt 29 = .ok (.iconst 1, 1) := by decide +kernel
theorem dX8_numberAt_30 : decode cX8_numberAt 30 = .ok (.iadd, 1) := by decide +kernel
theorem dX8_numberAt_31 : decode cX8_numberAt 31 = .ok (.invokevirtual 117, 3) := by decide +kernel
theorem dX8_numberAt_34 : decode cX8_numberAt 34 = .ok (.iadd, 1) := by decide +kernel
theorem dX8_numberAt_35 : decode cX8_numberAt 35 = .ok (.ireturn, 1) := by decide +kernel
theorem dX8_orderEnd_0 : decode cX8_orderEnd 0 = .ok (.aload_n 0, 1) := by decide +kernel
theorem dX8_orderEnd_1 : decode cX8_orderEnd 1 = .ok (.iload_n 1, 1) := by decide +kernel
theorem dX8_orderEnd_2 : decode cX8_orderEnd 2 = .ok (.invokevirtual 114, 3) := by decide +kernel
theorem dX8_orderEnd_5 : decode cX8_orderEnd 5 = .ok (.lookupswitch 132 #[(33, 128), (60, 128), (62, 128), (100, 75), (103, 96), (104, 96), (108, 75), (114, 104)], 75) := by decide +kernel
theorem dX8_orderEnd_80 : decode cX8_orderEnd 80 = .ok (.aload_n 0, 1) := by decide +kernel
theorem dX8_orderEnd_81 : decode cX8_orderEnd 81 = .ok (.iload_n 1, 1) := by decide +kernel
theorem dX8_orderEnd_82 : decode cX8_orderEnd 82 = .ok (.iconst 1, 1) := by decide +kernel
theorem dX8_orderEnd_83 : decode cX8_orderEnd 83 = .ok (.iadd, 1) := by decide +kernel
theorem dX8_orderEnd_84 : decode cX8_orderEnd 84 = .ok (.invokevirtual 117, 3) := by decide +kernel
theorem dX8_orderEnd_87 : decode cX8_orderEnd 87 = .ok (.ifCond .ge 10, 3) := by decide +kernel
theorem dX8_orderEnd_90 : decode cX8_orderEnd 90 = .ok (.bipush (-2), 2) := by decide +kernel
theorem dX8_orderEnd_92 : decode cX8_orderEnd 92 = .ok (.iload_n 1, 1) := by decide +kernel
theorem dX8_orderEnd_93 : decode cX8_orderEnd 93 = .ok (.isub, 1) := by decide +kernel
theorem dX8_orderEnd_94 : decode cX8_orderEnd 94 = .ok (.goto 6, 3) := by decide +kernel
theorem dX8_orderEnd_97 : decode cX8_orderEnd 97 = .ok (.iload_n 1, 1) := by decide +kernel
theorem dX8_orderEnd_98 : decode cX8_orderEnd 98 = .ok (.iconst 2, 1) := by decide +kernel
theorem dX8_orderEnd_99 : decode cX8_orderEnd 99 = .ok (.iadd, 1) := by decide +kernel
theorem dX8_orderEnd_100 : decode cX8_orderEnd 100 = .ok (.ireturn, 1) := by decide +kernel
theorem dX8_orderEnd_101 : decode cX8_orderEnd 101 = .ok (.aload_n 0, 1) := by decide +kernel
theorem dX8_orderEnd_102 : decode cX8_orderEnd 102 = .ok (.iload_n 1, 1) := by decide +kernel
theorem dX8_orderEnd_103 : decode cX8_orderEnd 103 = .ok (.iconst 1, 1) := by decide +kernel
theorem dX8_orderEnd_104 : decode cX8_orderEnd 104 = .ok (.iadd, 1) := by decide +kernel
theorem dX8_orderEnd_105 : decode cX8_orderEnd 105 = .ok (.invokevirtual 120, 3) := by decide +kernel
theorem dX8_orderEnd_108 : decode cX8_orderEnd 108 = .ok (.ireturn, 1) := by decide +kernel
theorem dX8_orderEnd_109 : decode cX8_orderEnd 109 = .ok (.aload_n 0, 1) := by decide +kernel
theorem dX8_orderEnd_110 : decode cX8_orderEnd 110 = .ok (.iload_n 1, 1) := by decide +kernel
theorem dX8_orderEnd_111 : decode cX8_orderEnd 111 = .ok (.iconst 1, 1) := by decide +kernel
theorem dX8_orderEnd_112 : decode cX8_orderEnd 112 = .ok (.iadd, 1) := by decide +kernel
theorem dX8_orderEnd_113 : decode cX8_orderEnd 113 = .ok (.invokevirtual 117, 3) := by decide +kernel
theorem dX8_orderEnd_116 : decode cX8_orderEnd 116 = .ok (.ifCond .ge 9, 3) := by decide +kernel
theorem dX8_orderEnd_119 : decode cX8_orderEnd 119 = .ok (.iload_n 1, 1) := by decide +kernel
theorem dX8_orderEnd_120 : decode cX8_orderEnd 120 = .ok (.iconst 1, 1) := by decide +kernel
theorem dX8_orderEnd_121 : decode cX8_orderEnd 121 = .ok (.iadd, 1) := by decide +kernel
theorem dX8_orderEnd_122 : decode cX8_orderEnd 122 = .ok (.goto 10, 3) := by decide +kernel
theorem dX8_orderEnd_125 : decode cX8_orderEnd 125 = .ok (.aload_n 0, 1) := by decide +kernel
theorem dX8_orderEnd_126 : decode cX8_orderEnd 126 = .ok (.iload_n 1, 1) := by decide +kernel
theorem dX8_orderEnd_127 : decode cX8_orderEnd 127 = .ok (.iconst 1, 1) := by decide +kernel
theorem dX8_orderEnd_128 : decode cX8_orderEnd 128 = .ok (.iadd, 1) := by decide +kernel
theorem dX8_orderEnd_129 : decode cX8_orderEnd 129 = .ok (.invokevirtual 120, 3) := by decide +kernel
theorem dX8_orderEnd_132 : decode cX8_orderEnd 132 = .ok (.ireturn, 1) := by decide +kernel
theorem dX8_orderEnd_133 : decode cX8_orderEnd 133 = .ok (.iload_n 1, 1) := by decide +kernel
theorem dX8_orderEnd_134 : decode cX8_orderEnd 134 = .ok (.iconst 1, 1) := by decide +kernel
theorem dX8_orderEnd_135 : decode cX8_orderEnd 135 = .ok (.iadd, 1) := by decide +kernel
theorem dX8_orderEnd_136 : decode cX8_orderEnd 136 = .ok (.ireturn, 1) := by decide +kernel
theorem dX8_orderEnd_137 : decode cX8_orderEnd 137 = .ok (.iconst (-1), 1) := by decide +kernel
theorem dX8_orderEnd_138 : decode cX8_orderEnd 138 = .ok (.iload_n 1, 1) := by decide +kernel
theorem dX8_orderEnd_139 : decode cX8_orderEnd 139 = .ok (.isub, 1) := by decide +kernel
theorem dX8_orderEnd_140 : decode cX8_orderEnd 140 = .ok (.ireturn, 1) := by decide +kernel
theorem dX8_fault_0 : decode cX8_fault 0 = .ok (.iconst 0, 1) := by decide +kernel
theorem dX8_fault_1 : decode cX8_fault 1 = .ok (.istore_n 1, 1) := by decide +kernel
theorem dX8_fault_2 : decode cX8_fault 2 = .ok (.iconst 0, 1) := by decide +kernel
theorem dX8_fault_3 : decode cX8_fault 3 = .ok (.istore_n 2, 1) := by decide +kernel
theorem dX8_fault_4 : decode cX8_fault 4 = .ok (.iload_n 2, 1) := by decide +kernel
theorem dX8_fault_5 : decode cX8_fault 5 = .ok (.bipush 80, 2) := by decide +kernel
theorem dX8_fault_7 : decode cX8_fault 7 = .ok (.if_icmp .ge 50, 3) := by decide +kernel
theorem dX8_fault_10 : decode cX8_fault 10 = .ok (.aload_n 0, 1) := by decide +kernel
theorem dX8_fault_11 : decode cX8_fault 11 = .ok (.iload_n 1, 1) := by decide +kernel
theorem dX8_fault_12 : decode cX8_fault 12 = .ok (.invokevirtual 123, 3) := by decide +kernel
theorem dX8_fault_15 : decode cX8_fault 15 = .ok (.istore_n 3, 1) := by decide +kernel
theorem dX8_fault_16 : decode cX8_fault 16 = .ok (.iload_n 3, 1) := by decide +kernel
theorem dX8_fault_17 : decode cX8_fault 17 = .ok (.ifCond .ge 7, 3) := by decide +kernel
theorem dX8_fault_20 : decode cX8_fault 20 = .ok (.iconst (-1), 1) := by decide +kernel
theorem dX8_fault_21 : decode cX8_fault 21 = .ok (.iload_n 3, 1) := by decide +kernel
theorem dX8_fault_22 : decode cX8_fault 22 = .ok (.isub, 1) := by decide +kernel
theorem dX8_fault_23 : decode cX8_fault 23 = .ok (.ireturn, 1) := by decide +kernel
theorem dX8_fault_24 : decode cX8_fault 24 = .ok (.iload_n 3, 1) := by decide +kernel
theorem dX8_fault_25 : decode cX8_fault 25 = .ok (.aload_n 0, 1) := by decide +kernel
theorem dX8_fault_26 : decode cX8_fault 26 = .ok (.getfield 106, 3) := by decide +kernel
theorem dX8_fault_29 : decode cX8_fault 29 = .ok (.if_icmp .ne 6, 3) := by decide +kernel
theorem dX8_fault_32 : decode cX8_fault 32 = .ok (.bipush (-6), 2) := by decide +kernel
theorem dX8_fault_34 : decode cX8_fault 34 = .ok (.ireturn, 1) := by decide +kernel
theorem dX8_fault_35 : decode cX8_fault 35 = .ok (.aload_n 0, 1) := by decide +kernel
theorem dX8_fault_36 : decode cX8_fault 36 = .ok (.iload_n 3, 1) := by decide +kernel
theorem dX8_fault_37 : decode cX8_fault 37 = .ok (.invokevirtual 114, 3) := by decide +kernel
theorem dX8_fault_40 : decode cX8_fault 40 = .ok (.bipush 59, 2) := by decide +kernel
theorem dX8_fault_42 : decode cX8_fault 42 = .ok (.if_icmp .eq 5, 3) := by decide +kernel
theorem dX8_fault_45 : decode cX8_fault 45 = .ok (.iload_n 3, 1) := by decide +kernel
theorem dX8_fault_46 : decode cX8_fault 46 = .ok (.ireturn, 1) := by decide +kernel
theorem dX8_fault_47 : decode cX8_fault 47 = .ok (.iload_n 3, 1) := by decide +kernel
theorem dX8_fault_48 : decode cX8_fault 48 = .ok (.iconst 1, 1) := by decide +kernel
theorem dX8_fault_49 : decode cX8_fault 49 = .ok (.iadd, 1) := by decide +kernel
theorem dX8_fault_50 : decode cX8_fault 50 = .ok (.istore_n 1, 1) := by decide +kernel
theorem dX8_fault_51 : decode cX8_fault 51 = .ok (.iinc 2 1, 3) := by decide +kernel
theorem dX8_fault_54 : decode cX8_fault 54 = .ok (.goto (-50), 3) := by decide +kernel
theorem dX8_fault_57 : decode cX8_fault 57 = .ok (.bipush (-6), 2) := by decide +kernel
theorem dX8_fault_59 : decode cX8_fault 59 = .ok (.ireturn, 1) := by decide +kernel
theorem dX8_kindOf_0 : decode cX8_kindOf 0 = .ok (.iload_n 0, 1) := by decide +kernel
theorem dX8_kindOf_1 : decode cX8_kindOf 1 = .ok (.bipush 100, 2) := by decide +kernel
theorem dX8_kindOf_3 : decode cX8_kindOf 3 = .ok (.if_icmp .ne 7, 3) := by decide +kernel
theorem dX8_kindOf_6 : decode cX8_kindOf 6 = .ok (.iconst 0, 1) := by decide +kernel
theorem dX8_kindOf_7 : decode cX8_kindOf 7 = .ok (.goto 14, 3) := by decide +kernel
theorem dX8_kindOf_10 : decode cX8_kindOf 10 = .ok (.iload_n 0, 1) := by decide +kernel
theorem dX8_kindOf_11 : decode cX8_kindOf 11 = .ok (.bipush 108, 2) := by decide +kernel
theorem dX8_kindOf_13 : decode cX8_kindOf 13 = .ok (.if_icmp .ne 7, 3) := by decide +kernel
theorem dX8_kindOf_16 : decode cX8_kindOf 16 = .ok (.iconst 1, 1) := by decide +kernel
theorem dX8_kindOf_17 : decode cX8_kindOf 17 = .ok (.goto 4, 3) := by decide +kernel
theorem dX8_kindOf_20 : decode cX8_kindOf 20 = .ok (.iconst 2, 1) := by decide +kernel
theorem dX8_kindOf_21 : decode cX8_kindOf 21 = .ok (.ireturn, 1) := by decide +kernel
theorem dX8_whyNot_0 : decode cX8_whyNot 0 = .ok (.aload_n 0, 1) := by decide +kernel
theorem dX8_whyNot_1 : decode cX8_whyNot 1 = .ok (.iload_n 1, 1) := by decide +kernel
theorem dX8_whyNot_2 : decode cX8_whyNot 2 = .ok (.iconst 1, 1) := by decide +kernel
theorem dX8_whyNot_3 : decode cX8_whyNot 3 = .ok (.iadd, 1) := by decide +kernel
theorem dX8_whyNot_4 : decode cX8_whyNot 4 = .ok (.invokevirtual 117, 3) := by decide +kernel
theorem dX8_whyNot_7 : decode cX8_whyNot 7 = .ok (.ifCond .ge 7, 3) := by decide +kernel
theorem dX8_whyNot_10 : decode cX8_whyNot 10 = .ok (.iconst 1, 1) := by decide +kernel
theorem dX8_whyNot_11 : decode cX8_whyNot 11 = .ok (.goto 10, 3) := by decide +kernel
theorem dX8_whyNot_14 : decode cX8_whyNot 14 = .ok (.aload_n 0, 1) := by decide +kernel
theorem dX8_whyNot_15 : decode cX8_whyNot 15 = .ok (.iload_n 1, 1) := by decide +kernel
theorem dX8_whyNot_16 : decode cX8_whyNot 16 = .ok (.iconst 1, 1) := by decide +kernel
theorem dX8_whyNot_17 : decode cX8_whyNot 17 = .ok (.iadd, 1) := by decide +kernel
theorem dX8_whyNot_18 : decode cX8_whyNot 18 = .ok (.invokevirtual 126, 3) := by decide +kernel
theorem dX8_whyNot_21 : decode cX8_whyNot 21 = .ok (.istore_n 2, 1) := by decide +kernel
theorem dX8_whyNot_22 : decode cX8_whyNot 22 = .ok (.aload_n 0, 1) := by decide +kernel
theorem dX8_whyNot_23 : decode cX8_whyNot 23 = .ok (.iload_n 1, 1) := by decide +kernel
theorem dX8_whyNot_24 : decode cX8_whyNot 24 = .ok (.invokevirtual 114, 3) := by decide +kernel
theorem dX8_whyNot_27 : decode cX8_whyNot 27 = .ok (.tableswitch 116 100 114 #[73, 116, 116, 73, 93, 116, 116, 116, 73, 116, 116, 116, 116, 116, 110], 73) := by decide +kernel
theorem dX8_whyNot_100 : decode cX8_whyNot 100 = .ok (.aload_n 0, 1) := by decide +kernel
theorem dX8_whyNot_101 : decode cX8_whyNot 101 = .ok (.aload_n 0, 1) := by decide +kernel
theorem dX8_whyNot_102 : decode cX8_whyNot 102 = .ok (.getfield 7, 3) := by decide +kernel
theorem dX8_whyNot_105 : decode cX8_whyNot 105 = .ok (.iconst 4, 1) := by decide +kernel
theorem dX8_whyNot_106 : decode cX8_whyNot 106 = .ok (.iaload, 1) := by decide +kernel
theorem dX8_whyNot_107 : decode cX8_whyNot 107 = .ok (.aload_n 0, 1) := by decide +kernel
theorem dX8_whyNot_108 : decode cX8_whyNot 108 = .ok (.iload_n 1, 1) := by decide +kernel
theorem dX8_whyNot_109 : decode cX8_whyNot 109 = .ok (.invokevirtual 114, 3) := by decide +kernel
theorem dX8_whyNot_112 : decode cX8_whyNot 112 = .ok (.invokestatic 129, 3) := by decide +kernel
theorem dX8_whyNot_115 : decode cX8_whyNot 115 = .ok (.iload_n 2, 1) := by decide +kernel
theorem dX8_whyNot_116 : decode cX8_whyNot 116 = .ok (.invokevirtual 72, 3) := by decide +kernel
theorem dX8_whyNot_119 : decode cX8_whyNot 119 = .ok (.ireturn, 1) := by decide +kernel
theorem dX8_whyNot_120 : decode cX8_whyNot 120 = .ok (.iload_n 2, 1) := by decide +kernel
theorem dX8_whyNot_121 : decode cX8_whyNot 121 = .ok (.iconst 1, 1) := by decide +kernel
theorem dX8_whyNot_122 : decode cX8_whyNot 122 = .ok (.bipush 60, 2) := by decide +kernel
theorem dX8_whyNot_124 : decode cX8_whyNot 124 = .ok (.invokestatic 26, 3) := by decide +kernel
theorem dX8_whyNot_127 : decode cX8_whyNot 127 = .ok (.ifCond .eq 7, 3) := by decide +kernel
theorem dX8_whyNot_130 : decode cX8_whyNot 130 = .ok (.iconst 0, 1) := by decide +kernel
theorem dX8_whyNot_131 : decode cX8_whyNot 131 = .ok (.goto 5, 3) := by decide +kernel
theorem dX8_whyNot_134 : decode cX8_whyNot 134 = .ok (.bipush (-2), 2) := by decide +kernel
theorem dX8_whyNot_136 : decode cX8_whyNot 136 = .ok (.ireturn, 1) := by decide +kernel
theorem dX8_whyNot_137 : decode cX8_whyNot 137 = .ok (.aload_n 0, 1) := by decide +kernel
theorem dX8_whyNot_138 : decode cX8_whyNot 138 = .ok (.iload_n 2, 1) := by decide +kernel
theorem dX8_whyNot_139 : decode cX8_whyNot 139 = .ok (.invokevirtual 90, 3) := by decide +kernel
theorem dX8_whyNot_142 : decode cX8_whyNot 142 = .ok (.ireturn, 1) := by decide +kernel
theorem dX8_whyNot_143 : decode cX8_whyNot 143 = .ok (.aload_n 0, 1) := by decide +kernel
theorem dX8_whyNot_144 : decode cX8_whyNot 144 = .ok (.invokevirtual 86, 3) := by decide +kernel
theorem dX8_whyNot_147 : decode cX8_whyNot 147 = .ok (.ifCond .eq 7, 3) := by decide +kernel
theorem dX8_whyNot_150 : decode cX8_whyNot 150 = .ok (.iconst 0, 1) := by decide +kernel
theorem dX8_whyNot_151 : decode cX8_whyNot 151 = .ok (.goto 5, 3) := by decide +kernel
theorem dX8_whyNot_154 : decode cX8_whyNot 154 = .ok (.bipush (-5), 2) := by decide +kernel
theorem dX8_whyNot_156 : decode cX8_whyNot 156 = .ok (.ireturn, 1) := by decide +kernel
theorem dX8_does_0 : decode cX8_does 0 = .ok (.aload_n 0, 1) := by decide +kernel
theorem dX8_does_1 : decode cX8_does 1 = .ok (.iload_n 1, 1) := by decide +kernel
theorem dX8_does_2 : decode cX8_does 2 = .ok (.iconst 1, 1) := by decide +kernel
theorem dX8_does_3 : decode cX8_does 3 = .ok (.iadd, 1) := by decide +kernel
theorem dX8_does_4 : decode cX8_does 4 = .ok (.invokevirtual 117, 3) := by decide +kernel
theorem dX8_does_7 : decode cX8_does 7 = .ok (.ifCond .ge 7, 3) := by decide +kernel
theorem dX8_does_10 : decode cX8_does 10 = .ok (.iconst 1, 1) := by decide +kernel
theorem dX8_does_11 : decode cX8_does 11 = .ok (.goto 10, 3) := by decide +kernel
theorem dX8_does_14 : decode cX8_does 14 = .ok (.aload_n 0, 1) := by decide +kernel
theorem dX8_does_15 : decode cX8_does 15 = .ok (.iload_n 1, 1) := by decide +kernel
theorem dX8_does_16 : decode cX8_does 16 = .ok (.iconst 1, 1) := by decide +kernel
theorem dX8_does_17 : decode cX8_does 17 = .ok (.iadd, 1) := by decide +kernel
theorem dX8_does_18 : decode cX8_does 18 = .ok (.invokevirtual 126, 3) := by decide +kernel
theorem dX8_does_21 : decode cX8_does 21 = .ok (.istore_n 2, 1) := by decide +kernel
theorem dX8_does_22 : decode cX8_does 22 = .ok (.iconst 0, 1) := by decide +kernel
theorem dX8_does_23 : decode cX8_does 23 = .ok (.istore_n 3, 1) := by decide +kernel
theorem dX8_does_24 : decode cX8_does 24 = .ok (.aload_n 0, 1) := by decide +kernel
theorem dX8_does_25 : decode cX8_does 25 = .ok (.iload_n 1, 1) := by decide +kernel
theorem dX8_does_26 : decode cX8_does 26 = .ok (.invokevirtual 114, 3) := by decide +kernel
theorem dX8_does_29 : decode cX8_does 29 = .ok (.lookupswitch 96 #[(33, 88), (60, 70), (62, 79), (104, 51), (114, 60)], 51) := by decide +kernel
theorem dX8_does_80 : decode cX8_does 80 = .ok (.aload_n 0, 1) := by decide +kernel
theorem dX8_does_81 : decode cX8_does 81 = .ok (.iconst 0, 1) := by decide +kernel
theorem dX8_does_82 : decode cX8_does 82 = .ok (.iload_n 2, 1) := by decide +kernel
theorem dX8_does_83 : decode cX8_does 83 = .ok (.invokevirtual 83, 3) := by decide +kernel
theorem dX8_does_86 : decode cX8_does 86 = .ok (.goto 59, 3) := by decide +kernel
theorem dX8_does_89 : decode cX8_does 89 = .ok (.aload_n 0, 1) := by decide +kernel
theorem dX8_does_90 : decode cX8_does 90 = .ok (.iconst 0, 1) := by decide +kernel
theorem dX8_does_91 : decode cX8_does 91 = .ok (.iload_n 2, 1) := by decide +kernel
theorem dX8_does_92 : decode cX8_does 92 = .ok (.invokevirtual 93, 3) := by decide +kernel
theorem dX8_does_95 : decode cX8_does 95 = .ok (.istore_n 3, 1) := by decide +kernel
theorem dX8_does_96 : decode cX8_does 96 = .ok (.goto 49, 3) := by decide +kernel
theorem dX8_does_99 : decode cX8_does 99 = .ok (.aload_n 0, 1) := by decide +kernel
theorem dX8_does_100 : decode cX8_does 100 = .ok (.iconst 0, 1) := by decide +kernel
theorem dX8_does_101 : decode cX8_does 101 = .ok (.iconst 0, 1) := by decide +kernel
theorem dX8_does_102 : decode cX8_does 102 = .ok (.invokevirtual 96, 3) := by decide +kernel
theorem dX8_does_105 : decode cX8_does 105 = .ok (.goto 40, 3) := by decide +kernel
theorem dX8_does_108 : decode cX8_does 108 = .ok (.aload_n 0, 1) := by decide +kernel
theorem dX8_does_109 : decode cX8_does 109 = .ok (.iconst 0, 1) := by decide +kernel
theorem dX8_does_110 : decode cX8_does 110 = .ok (.iconst 1, 1) := by decide +kernel
theorem dX8_does_111 : decode cX8_does 111 = .ok (.invokevirtual 96, 3) := by decide +kernel
theorem dX8_does_114 : decode cX8_does 114 = .ok (.goto 31, 3) := by decide +kernel
theorem dX8_does_117 : decode cX8_does 117 = .ok (.aload_n 0, 1) := by decide +kernel
theorem dX8_does_118 : decode cX8_does 118 = .ok (.invokevirtual 99, 3) := by decide +kernel
theorem dX8_does_121 : decode cX8_does 121 = .ok (.istore_n 3, 1) := by decide +kernel
theorem dX8_does_122 : decode cX8_does 122 = .ok (.goto 23, 3) := by decide +kernel
theorem dX8_does_125 : decode cX8_does 125 = .ok (.aload_n 0, 1) := by decide +kernel
theorem dX8_does_126 : decode cX8_does 126 = .ok (.aload_n 0, 1) := by decide +kernel
theorem dX8_does_127 : decode cX8_does 127 = .ok (.getfield 7, 3) := by decide +kernel
theorem dX8_does_130 : decode cX8_does 130 = .ok (.iconst 4, 1) := by decide +kernel
theorem dX8_does_131 : decode cX8_does 131 = .ok (.iaload, 1) := by decide +kernel
theorem dX8_does_132 : decode cX8_does 132 = .ok (.aload_n 0, 1) := by decide +kernel
theorem dX8_does_133 : decode cX8_does 133 = .ok (.iload_n 1, 1) := by decide +kernel
theorem dX8_does_134 : decode cX8_does 134 = .ok (.invokevirtual 114, 3) := by decide +kernel
theorem dX8_does_137 : decode cX8_does 137 = .ok (.invokestatic 129, 3) := by decide +kernel
theorem dX8_does_140 : decode cX8_does 140 = .ok (.iload_n 2, 1) := by decide +kernel
theorem dX8_does_141 : decode cX8_does 141 = .ok (.invokevirtual 76, 3) := by decide +kernel
theorem dX8_does_144 : decode cX8_does 144 = .ok (.istore_n 3, 1) := by decide +kernel
theorem dX8_does_145 : decode cX8_does 145 = .ok (.return_, 1) := by decide +kernel
theorem dX8_carryOut_0 : decode cX8_carryOut 0 = .ok (.aload_n 0, 1) := by decide +kernel
theorem dX8_carryOut_1 : decode cX8_carryOut 1 = .ok (.invokevirtual 132, 3) := by decide +kernel
theorem dX8_carryOut_4 : decode cX8_carryOut 4 = .ok (.bipush (-6), 2) := by decide +kernel
theorem dX8_carryOut_6 : decode cX8_carryOut 6 = .ok (.if_icmp .eq 6, 3) := by decide +kernel
theorem dX8_carryOut_9 : decode cX8_carryOut 9 = .ok (.bipush (-3), 2) := by decide +kernel
theorem dX8_carryOut_11 : decode cX8_carryOut 11 = .ok (.ireturn, 1) := by decide +kernel
theorem dX8_carryOut_12 : decode cX8_carryOut 12 = .ok (.aload_n 0, 1) := by decide +kernel
theorem dX8_carryOut_13 : decode cX8_carryOut 13 = .ok (.invokevirtual 69, 3) := by decide +kernel
theorem dX8_carryOut_16 : decode cX8_carryOut 16 = .ok (.iconst 0, 1) := by decide +kernel
theorem dX8_carryOut_17 : decode cX8_carryOut 17 = .ok (.istore_n 1, 1) := by decide +kernel
theorem dX8_carryOut_18 : decode cX8_carryOut 18 = .ok (.iconst 0, 1) := by decide +kernel
theorem dX8_carryOut_19 : decode cX8_carryOut 19 = .ok (.istore_n 2, 1) := by decide +kernel
theorem dX8_carryOut_20 : decode cX8_carryOut 20 = .ok (.iload_n 2, 1) := by decide +kernel
theorem dX8_carryOut_21 : decode cX8_carryOut 21 = .ok (.aload_n 0, 1) := by decide +kernel
theorem dX8_carryOut_22 : decode cX8_carryOut 22 = .ok (.getfield 106, 3) := by decide +kernel
theorem dX8_carryOut_25 : decode cX8_carryOut 25 = .ok (.if_icmp .ge 30, 3) := by decide +kernel
theorem dX8_carryOut_28 : decode cX8_carryOut 28 = .ok (.aload_n 0, 1) := by decide +kernel
theorem dX8_carryOut_29 : decode cX8_carryOut 29 = .ok (.iload_n 2, 1) := by decide +kernel
theorem dX8_carryOut_30 : decode cX8_carryOut 30 = .ok (.invokevirtual 135, 3) := by decide +kernel
theorem dX8_carryOut_33 : decode cX8_carryOut 33 = .ok (.ifCond .ne 22, 3) := by decide +kernel
theorem dX8_carryOut_36 : decode cX8_carryOut 36 = .ok (.aload_n 0, 1) := by decide +kernel
theorem dX8_carryOut_37 : decode cX8_carryOut 37 = .ok (.iload_n 2, 1) := by decide +kernel
theorem dX8_carryOut_38 : decode cX8_carryOut 38 = .ok (.invokevirtual 138, 3) := by decide +kernel
theorem dX8_carryOut_41 : decode cX8_carryOut 41 = .ok (.iinc 1 1, 3) := by decide +kernel
theorem dX8_carryOut_44 : decode cX8_carryOut 44 = .ok (.aload_n 0, 1) := by decide +kernel
theorem dX8_carryOut_45 : decode cX8_carryOut 45 = .ok (.iload_n 2, 1) := by decide +kernel
theorem dX8_carryOut_46 : decode cX8_carryOut 46 = .ok (.invokevirtual 123, 3) := by decide +kernel
theorem dX8_carryOut_49 : decode cX8_carryOut 49 = .ok (.iconst 1, 1) := by decide +kernel
theorem dX8_carryOut_50 : decode cX8_carryOut 50 = .ok (.iadd, 1) := by decide +kernel
theorem dX8_carryOut_51 : decode cX8_carryOut 51 = .ok (.istore_n 2, 1) := by decide +kernel
theorem dX8_carryOut_52 : decode cX8_carryOut 52 = .ok (.goto (-32), 3) := by decide +kernel
theorem dX8_carryOut_55 : decode cX8_carryOut 55 = .ok (.aload_n 0, 1) := by decide +kernel
theorem dX8_carryOut_56 : decode cX8_carryOut 56 = .ok (.iconst 0, 1) := by decide +kernel
theorem dX8_carryOut_57 : decode cX8_carryOut 57 = .ok (.putfield 106, 3) := by decide +kernel
theorem dX8_carryOut_60 : decode cX8_carryOut 60 = .ok (.iload_n 1, 1) := by decide +kernel
theorem dX8_carryOut_61 : decode cX8_carryOut 61 = .ok (.ireturn, 1) := by decide +kernel
theorem dX8_undo_0 : decode cX8_undo 0 = .ok (.aload_n 0, 1) := by decide +kernel
theorem dX8_undo_1 : decode cX8_undo 1 = .ok (.getfield 30, 3) := by decide +kernel
theorem dX8_undo_4 : decode cX8_undo 4 = .ok (.ifCond .ne 6, 3) := by decide +kernel
theorem dX8_undo_7 : decode cX8_undo 7 = .ok (.bipush (-5), 2) := by decide +kernel
theorem dX8_undo_9 : decode cX8_undo 9 = .ok (.ireturn, 1) := by decide +kernel
theorem dX8_undo_10 : decode cX8_undo 10 = .ok (.aload_n 0, 1) := by decide +kernel
theorem dX8_undo_11 : decode cX8_undo 11 = .ok (.dup, 1) := by decide +kernel
theorem dX8_undo_12 : decode cX8_undo 12 = .ok (.getfield 30, 3) := by decide +kernel
theorem dX8_undo_15 : decode cX8_undo 15 = .ok (.iconst 1, 1) := by decide +kernel
theorem dX8_undo_16 : decode cX8_undo 16 = .ok (.isub, 1) := by decide +kernel
theorem dX8_undo_17 : decode cX8_undo 17 = .ok (.putfield 30, 3) := by decide +kernel
theorem dX8_undo_20 : decode cX8_undo 20 = .ok (.iconst 0, 1) := by decide +kernel
theorem dX8_undo_21 : decode cX8_undo 21 = .ok (.istore_n 1, 1) := by decide +kernel
theorem dX8_undo_22 : decode cX8_undo 22 = .ok (.iload_n 1, 1) := by decide +kernel
theorem dX8_undo_23 : decode cX8_undo 23 = .ok (.sipush 161, 3) := by decide +kernel
theorem dX8_undo_26 : decode cX8_undo 26 = .ok (.if_icmp .ge 30, 3) := by decide +kernel
theorem dX8_undo_29 : decode cX8_undo 29 = .ok (.aload_n 0, 1) := by decide +kernel
theorem dX8_undo_30 : decode cX8_undo 30 = .ok (.getfield 7, 3) := by decide +kernel
theorem dX8_undo_33 : decode cX8_undo 33 = .ok (.iload_n 1, 1) := by decide +kernel
theorem dX8_undo_34 : decode cX8_undo 34 = .ok (.aload_n 0, 1) := by decide +kernel
theorem dX8_undo_35 : decode cX8_undo 35 = .ok (.getfield 13, 3) := by decide +kernel
theorem dX8_undo_38 : decode cX8_undo 38 = .ok (.sipush 161, 3) := by decide +kernel
theorem dX8_undo_41 : decode cX8_undo 41 = .ok (.aload_n 0, 1) := by decide +kernel
theorem dX8_undo_42 : decode cX8_undo 42 = .ok (.getfield 30, 3) := by decide +kernel
theorem dX8_undo_45 : decode cX8_undo 45 = .ok (.imul, 1) := by decide +kernel
theorem dX8_undo_46 : decode cX8_undo 46 = .ok (.iload_n 1, 1) := by decide +kernel
theorem dX8_undo_47 : decode cX8_undo 47 = .ok (.iadd, 1) := by decide +kernel
theorem dX8_undo_48 : decode cX8_undo 48 = .ok (.iaload, 1) := by decide +kernel
theorem dX8_undo_49 : decode cX8_undo 49 = .ok (.iastore, 1) := by decide +kernel
theorem dX8_undo_50 : decode cX8_undo 50 = .ok (.iinc 1 1, 3) := by decide +kernel
theorem dX8_undo_53 : decode cX8_undo 53 = .ok (.goto (-31), 3) := by decide +kernel
theorem dX8_undo_56 : decode cX8_undo 56 = .ok (.aload_n 0, 1) := by decide +kernel
theorem dX8_undo_57 : decode cX8_undo 57 = .ok (.getfield 30, 3) := by decide +kernel
theorem dX8_undo_60 : decode cX8_undo 60 = .ok (.ireturn, 1) := by decide +kernel
theorem dX8_save_0 : decode cX8_save 0 = .ok (.iload_n 1, 1) := by decide +kernel
theorem dX8_save_1 : decode cX8_save 1 = .ok (.iconst 0, 1) := by decide +kernel
theorem dX8_save_2 : decode cX8_save 2 = .ok (.iconst 1, 1) := by decide +kernel
theorem dX8_save_3 : decode cX8_save 3 = .ok (.invokestatic 26, 3) := by decide +kernel
theorem dX8_save_6 : decode cX8_save 6 = .ok (.ifCond .ne 6, 3) := by decide +kernel
theorem dX8_save_9 : decode cX8_save 9 = .ok (.bipush (-2), 2) := by decide +kernel
theorem dX8_save_11 : decode cX8_save 11 = .ok (.ireturn, 1) := by decide +kernel
theorem dX8_save_12 : decode cX8_save 12 = .ok (.iconst 0, 1) := by decide +kernel
theorem dX8_save_13 : decode cX8_save 13 = .ok (.istore_n 2, 1) := by decide +kernel
theorem dX8_save_14 : decode cX8_save 14 = .ok (.iload_n 2, 1) := by decide +kernel
theorem dX8_save_15 : decode cX8_save 15 = .ok (.sipush 161, 3) := by decide +kernel
theorem dX8_save_18 : decode cX8_save 18 = .ok (.if_icmp .ge 27, 3) := by decide +kernel
theorem dX8_save_21 : decode cX8_save 21 = .ok (.aload_n 0, 1) := by decide +kernel
theorem dX8_save_22 : decode cX8_save 22 = .ok (.getfield 16, 3) := by decide +kernel
theorem dX8_save_25 : decode cX8_save 25 = .ok (.sipush 161, 3) := by decide +kernel
theorem dX8_save_28 : decode cX8_save 28 = .ok (.iload_n 1, 1) := by decide +kernel
theorem dX8_save_29 : decode cX8_save 29 = .ok (.imul, 1) := by decide +kernel
theorem dX8_save_30 : decode cX8_save 30 = .ok (.iload_n 2, 1) := by decide +kernel
theorem dX8_save_31 : decode cX8_save 31 = .ok (.iadd, 1) := by decide +kernel
theorem dX8_save_32 : decode cX8_save 32 = .ok (.aload_n 0, 1) := by decide +kernel
theorem dX8_save_33 : decode cX8_save 33 = .ok (.getfield 7, 3) := by decide +kernel
theorem dX8_save_36 : decode cX8_save 36 = .ok (.iload_n 2, 1) := by decide +kernel
theorem dX8_save_37 : decode cX8_save 37 = .ok (.iaload, 1) := by decide +kernel
theorem dX8_save_38 : decode cX8_save 38 = .ok (.iastore, 1) := by decide +kernel
theorem dX8_save_39 : decode cX8_save 39 = .ok (.iinc 2 1, 3) := by decide +kernel
theorem dX8_save_42 : decode cX8_save 42 = .ok (.goto (-28), 3) := by decide +kernel
theorem dX8_save_45 : decode cX8_save 45 = .ok (.aload_n 0, 1) := by decide +kernel
theorem dX8_save_46 : decode cX8_save 46 = .ok (.getfield 19, 3) := by decide +kernel
theorem dX8_save_49 : decode cX8_save 49 = .ok (.iload_n 1, 1) := by decide +kernel
theorem dX8_save_50 : decode cX8_save 50 = .ok (.iconst 1, 1) := by decide +kernel
theorem dX8_save_51 : decode cX8_save 51 = .ok (.bastore, 1) := by decide +kernel
theorem dX8_save_52 : decode cX8_save 52 = .ok (.aload_n 0, 1) := by decide +kernel
theorem dX8_save_53 : decode cX8_save 53 = .ok (.getfield 7, 3) := by decide +kernel
theorem dX8_save_56 : decode cX8_save 56 = .ok (.iconst 4, 1) := by decide +kernel
theorem dX8_save_57 : decode cX8_save 57 = .ok (.iaload, 1) := by decide +kernel
theorem dX8_save_58 : decode cX8_save 58 = .ok (.ireturn, 1) := by decide +kernel
theorem dX8_restore_0 : decode cX8_restore 0 = .ok (.iload_n 1, 1) := by decide +kernel
theorem dX8_restore_1 : decode cX8_restore 1 = .ok (.iconst 0, 1) := by decide +kernel
theorem dX8_restore_2 : decode cX8_restore 2 = .ok (.iconst 1, 1) := by decide +kernel
theorem dX8_restore_3 : decode cX8_restore 3 = .ok (.invokestatic 26, 3) := by decide +kernel
theorem dX8_restore_6 : decode cX8_restore 6 = .ok (.ifCond .ne 6, 3) := by decide +kernel
theorem dX8_restore_9 : decode cX8_restore 9 = .ok (.bipush (-2), 2) := by decide +kernel
theorem dX8_restore_11 : decode cX8_restore 11 = .ok (.ireturn, 1) := by decide +kernel
theorem dX8_restore_12 : decode cX8_restore 12 = .ok (.aload_n 0, 1) := by decide +kernel
theorem dX8_restore_13 : decode cX8_restore 13 = .ok (.getfield 19, 3) := by decide +kernel
theorem dX8_restore_16 : decode cX8_restore 16 = .ok (.iload_n 1, 1) := by decide +kernel
theorem dX8_restore_17 : decode cX8_restore 17 = .ok (.baload, 1) := by decide +kernel
theorem dX8_restore_18 : decode cX8_restore 18 = .ok (.ifCond .ne 6, 3) := by decide +kernel
theorem dX8_restore_21 : decode cX8_restore 21 = .ok (.bipush (-5), 2) := by decide +kernel
theorem dX8_restore_23 : decode cX8_restore 23 = .ok (.ireturn, 1) := by decide +kernel
theorem dX8_restore_24 : decode cX8_restore 24 = .ok (.aload_n 0, 1) := by decide +kernel
theorem dX8_restore_25 : decode cX8_restore 25 = .ok (.invokevirtual 69, 3) := by decide +kernel
theorem dX8_restore_28 : decode cX8_restore 28 = .ok (.iconst 0, 1) := by decide +kernel
theorem dX8_restore_29 : decode cX8_restore 29 = .ok (.istore_n 2, 1) := by decide +kernel
theorem dX8_restore_30 : decode cX8_restore 30 = .ok (.iload_n 2, 1) := by decide +kernel
theorem dX8_restore_31 : decode cX8_restore 31 = .ok (.sipush 161, 3) := by decide +kernel
theorem dX8_restore_34 : decode cX8_restore 34 = .ok (.if_icmp .ge 27, 3) := by decide +kernel
theorem dX8_restore_37 : decode cX8_restore 37 = .ok (.aload_n 0, 1) := by decide +kernel
theorem dX8_restore_38 : decode cX8_restore 38 = .ok (.getfield 7, 3) := by decide +kernel
theorem dX8_restore_41 : decode cX8_restore 41 = .ok (.iload_n 2, 1) := by decide +kernel
theorem dX8_restore_42 : decode cX8_restore 42 = .ok (.aload_n 0, 1) := by decide +kernel
theorem dX8_restore_43 : decode cX8_restore 43 = .ok (.getfield 16, 3) := by decide +kernel
theorem dX8_restore_46 : decode cX8_restore 46 = .ok (.sipush 161, 3) := by decide +kernel
theorem dX8_restore_49 : decode cX8_restore 49 = .ok (.iload_n 1, 1) := by decide +kernel
theorem dX8_restore_50 : decode cX8_restore 50 = .ok (.imul, 1) := by decide +kernel
theorem dX8_restore_51 : decode cX8_restore 51 = .ok (.iload_n 2, 1) := by decide +kernel
theorem dX8_restore_52 : decode cX8_restore 52 = .ok (.iadd, 1) := by decide +kernel
theorem dX8_restore_53 : decode cX8_restore 53 = .ok (.iaload, 1) := by decide +kernel
theorem dX8_restore_54 : decode cX8_restore 54 = .ok (.iastore, 1) := by decide +kernel
theorem dX8_restore_55 : decode cX8_restore 55 = .ok (.iinc 2 1, 3) := by decide +kernel
theorem dX8_restore_58 : decode cX8_restore 58 = .ok (.goto (-28), 3) := by decide +kernel
theorem dX8_restore_61 : decode cX8_restore 61 = .ok (.aload_n 0, 1) := by decide +kernel
theorem dX8_restore_62 : decode cX8_restore 62 = .ok (.getfield 7, 3) := by decide +kernel
theorem dX8_restore_65 : decode cX8_restore 65 = .ok (.iconst 4, 1) := by decide +kernel
theorem dX8_restore_66 : decode cX8_restore 66 = .ok (.iaload, 1) := by decide +kernel
theorem dX8_restore_67 : decode cX8_restore 67 = .ok (.ireturn, 1) := by decide +kernel
theorem dJ9_abs_0f7a4_0 : decode cJ9_abs_0f7a4 0 = .ok (.iload_n 0, 1) := by decide +kernel
theorem dJ9_abs_0f7a4_1 : decode cJ9_abs_0f7a4 1 = .ok (.ifCond .ge 8, 3) := by decide +kernel
theorem dJ9_abs_0f7a4_4 : decode cJ9_abs_0f7a4 4 = .ok (.iload_n 0, 1) := by decide +kernel
theorem dJ9_abs_0f7a4_5 : decode cJ9_abs_0f7a4 5 = .ok (.ineg, 1) := by decide +kernel
theorem dJ9_abs_0f7a4_6 : decode cJ9_abs_0f7a4 6 = .ok (.goto 4, 3) := by decide +kernel
theorem dJ9_abs_0f7a4_9 : decode cJ9_abs_0f7a4 9 = .ok (.iload_n 0, 1) := by decide +kernel
theorem dJ9_abs_0f7a4_10 : decode cJ9_abs_0f7a4 10 = .ok (.ireturn, 1) := by decide +kernel
theorem dJ9_max_7cf53_0 : decode cJ9_max_7cf53 0 = .ok (.iload_n 0, 1) := by decide +kernel
theorem dJ9_max_7cf53_1 : decode cJ9_max_7cf53 1 = .ok (.iload_n 1, 1) := by decide +kernel
theorem dJ9_max_7cf53_2 : decode cJ9_max_7cf53 2 = .ok (.if_icmp .lt 7, 3) := by decide +kernel
theorem dJ9_max_7cf53_5 : decode cJ9_max_7cf53 5 = .ok (.iload_n 0, 1) := by decide +kernel
theorem dJ9_max_7cf53_6 : decode cJ9_max_7cf53 6 = .ok (.goto 4, 3) := by decide +kernel
theorem dJ9_max_7cf53_9 : decode cJ9_max_7cf53 9 = .ok (.iload_n 1, 1) := by decide +kernel
theorem dJ9_max_7cf53_10 : decode cJ9_max_7cf53 10 = .ok (.ireturn, 1) := by decide +kernel
theorem dJ9_min_7cf53_0 : decode cJ9_min_7cf53 0 = .ok (.iload_n 0, 1) := by decide +kernel
theorem dJ9_min_7cf53_1 : decode cJ9_min_7cf53 1 = .ok (.iload_n 1, 1) := by decide +kernel
theorem dJ9_min_7cf53_2 : decode cJ9_min_7cf53 2 = .ok (.if_icmp .gt 7, 3) := by decide +kernel
theorem dJ9_min_7cf53_5 : decode cJ9_min_7cf53 5 = .ok (.iload_n 0, 1) := by decide +kernel
theorem dJ9_min_7cf53_6 : decode cJ9_min_7cf53 6 = .ok (.goto 4, 3) := by decide +kernel
theorem dJ9_min_7cf53_9 : decode cJ9_min_7cf53 9 = .ok (.iload_n 1, 1) := by decide +kernel
theorem dJ9_min_7cf53_10 : decode cJ9_min_7cf53 10 = .ok (.ireturn, 1) := by decide +kernel
theorem dL_law_0 : decode cL_law 0 = .ok (.new 7, 3) := by decide +kernel
theorem dL_law_3 : decode cL_law 3 = .ok (.dup, 1) := by decide +kernel
theorem dL_law_4 : decode cL_law 4 = .ok (.invokespecial 9, 3) := by decide +kernel
theorem dL_law_7 : decode cL_law 7 = .ok (.astore_n 1, 1) := by decide +kernel
theorem dL_law_8 : decode cL_law 8 = .ok (.new 10, 3) := by decide +kernel
theorem dL_law_11 : decode cL_law 11 = .ok (.dup, 1) := by decide +kernel
theorem dL_law_12 : decode cL_law 12 = .ok (.invokespecial 12, 3) := by decide +kernel
theorem dL_law_15 : decode cL_law 15 = .ok (.astore_n 2, 1) := by decide +kernel
theorem dL_law_16 : decode cL_law 16 = .ok (.iconst 0, 1) := by decide +kernel
theorem dL_law_17 : decode cL_law 17 = .ok (.istore_n 3, 1) := by decide +kernel
theorem dL_law_18 : decode cL_law 18 = .ok (.iload_n 3, 1) := by decide +kernel
theorem dL_law_19 : decode cL_law 19 = .ok (.aload_n 0, 1) := by decide +kernel
theorem dL_law_20 : decode cL_law 20 = .ok (.arraylength, 1) := by decide +kernel
theorem dL_law_21 : decode cL_law 21 = .ok (.iconst 4, 1) := by decide +kernel
theorem dL_law_22 : decode cL_law 22 = .ok (.isub, 1) := by decide +kernel
theorem dL_law_23 : decode cL_law 23 = .ok (.if_icmp .gt 665, 3) := by decide +kernel
theorem dL_law_26 : decode cL_law 26 = .ok (.aload_n 0, 1) := by decide +kernel
theorem dL_law_27 : decode cL_law 27 = .ok (.iload_n 3, 1) := by decide +kernel
theorem dL_law_28 : decode cL_law 28 = .ok (.iaload, 1) := by decide +kernel
theorem dL_law_29 : decode cL_law 29 = .ok (.bipush 31, 2) := by decide +kernel
theorem dL_law_31 : decode cL_law 31 = .ok (.iand, 1) := by decide +kernel
theorem dL_law_32 : decode cL_law 32 = .ok (.tableswitch 650 0 21 #[104, 137, 180, 203, 226, 249, 272, 285, 318, 341, 374, 397, 420, 433, 456, 499, 552, 565, 578, 591, 604, 627], 104) := by decide +kernel
theorem dL_law_136 : decode cL_law 136 = .ok (.aload_n 1, 1) := by decide +kernel
theorem dL_law_137 : decode cL_law 137 = .ok (.aload_n 0, 1) := by decide +kernel
theorem dL_law_138 : decode cL_law 138 = .ok (.iload_n 3, 1) := by decide +kernel
theorem dL_law_139 : decode cL_law 139 = .ok (.iconst 1, 1) := by decide +kernel
theorem dL_law_140 : decode cL_law 140 = .ok (.iadd, 1) := by decide +kernel
theorem dL_law_141 : decode cL_law 141 = .ok (.iaload, 1) := by decide +kernel
theorem dL_law_142 : decode cL_law 142 = .ok (.aload_n 0, 1) := by decide +kernel
theorem dL_law_143 : decode cL_law 143 = .ok (.iload_n 3, 1) := by decide +kernel
theorem dL_law_144 : decode cL_law 144 = .ok (.iconst 2, 1) := by decide +kernel
theorem dL_law_145 : decode cL_law 145 = .ok (.iadd, 1) := by decide +kernel
theorem dL_law_146 : decode cL_law 146 = .ok (.iaload, 1) := by decide +kernel
theorem dL_law_147 : decode cL_law 147 = .ok (.invokevirtual 13, 3) := by decide +kernel
theorem dL_law_150 : decode cL_law 150 = .ok (.aload_n 2, 1) := by decide +kernel
theorem dL_law_151 : decode cL_law 151 = .ok (.aload_n 0, 1) := by decide +kernel
theorem dL_law_152 : decode cL_law 152 = .ok (.iload_n 3, 1) := by decide +kernel
theorem dL_law_153 : decode cL_law 153 = .ok (.iconst 1, 1) := by decide +kernel
theorem dL_law_154 : decode cL_law 154 = .ok (.iadd, 1) := by decide +kernel
theorem dL_law_155 : decode cL_law 155 = .ok (.iaload, 1) := by decide +kernel
theorem dL_law_156 : decode cL_law 156 = .ok (.aload_n 0, 1) := by decide +kernel
theorem dL_law_157 : decode cL_law 157 = .ok (.iload_n 3, 1) := by decide +kernel
theorem dL_law_158 : decode cL_law 158 = .ok (.iconst 2, 1) := by decide +kernel
theorem dL_law_159 : decode cL_law 159 = .ok (.iadd, 1) := by decide +kernel
theorem dL_law_160 : decode cL_law 160 = .ok (.iaload, 1) := by decide +kernel
theorem dL_law_161 : decode cL_law 161 = .ok (.invokevirtual 17, 3) := by decide +kernel
theorem dL_law_164 : decode cL_law 164 = .ok (.if_icmp .eq 518, 3) := by decide +kernel
theorem dL_law_167 : decode cL_law 167 = .ok (.iconst 0, 1) := by decide +kernel
theorem dL_law_168 : decode cL_law 168 = .ok (.ireturn, 1) := by decide +kernel
theorem dL_law_169 : decode cL_law 169 = .ok (.aload_n 1, 1) := by decide +kernel
theorem dL_law_170 : decode cL_law 170 = .ok (.aload_n 0, 1) := by decide +kernel
theorem dL_law_171 : decode cL_law 171 = .ok (.iload_n 3, 1) := by decide +kernel
theorem dL_law_172 : decode cL_law 172 = .ok (.iconst 1, 1) := by decide +kernel
theorem dL_law_173 : decode cL_law 173 = .ok (.iadd, 1) := by decide +kernel
theorem dL_law_174 : decode cL_law 174 = .ok (.iaload, 1) := by decide +kernel
theorem dL_law_175 : decode cL_law 175 = .ok (.aload_n 0, 1) := by decide +kernel
theorem dL_law_176 : decode cL_law 176 = .ok (.iload_n 3, 1) := by decide +kernel
theorem dL_law_177 : decode cL_law 177 = .ok (.iconst 2, 1) := by decide +kernel
theorem dL_law_178 : decode cL_law 178 = .ok (.iadd, 1) := by decide +kernel
theorem dL_law_179 : decode cL_law 179 = .ok (.iaload, 1) := by decide +kernel
theorem dL_law_180 : decode cL_law 180 = .ok (.aload_n 0, 1) := by decide +kernel
theorem dL_law_181 : decode cL_law 181 = .ok (.iload_n 3, 1) := by decide +kernel
theorem dL_law_182 : decode cL_law 182 = .ok (.iconst 3, 1) := by decide +kernel
theorem dL_law_183 : decode cL_law 183 = .ok (.iadd, 1) := by decide +kernel
theorem dL_law_184 : decode cL_law 184 = .ok (.iaload, 1) := by decide +kernel
theorem dL_law_185 : decode cL_law 185 = .ok (.invokevirtual 18, 3) := by decide +kernel
theorem dL_law_188 : decode cL_law 188 = .ok (.aload_n 2, 1) := by decide +kernel
theorem dL_law_189 : decode cL_law 189 = .ok (.aload_n 0, 1) := by decide +kernel
theorem dL_law_190 : decode cL_law 190 = .ok (.iload_n 3, 1) := by decide +kernel
theorem dL_law_191 : decode cL_law 191 = .ok (.iconst 1, 1) := by decide +kernel
theorem dL_law_192 : decode cL_law 192 = .ok (.iadd, 1) := by decide +kernel
theorem dL_law_193 : decode cL_law 193 = .ok (.iaload, 1) := by decide +kernel
theorem dL_law_194 : decode cL_law 194 = .ok (.aload_n 0, 1) := by decide +kernel
theorem dL_law_195 : decode cL_law 195 = .ok (.iload_n 3, 1) := by decide +kernel
theorem dL_law_196 : decode cL_law 196 = .ok (.iconst 2, 1) := by decide +kernel
theorem dL_law_197 : decode cL_law 197 = .ok (.iadd, 1) := by decide +kernel
theorem dL_law_198 : decode cL_law 198 = .ok (.iaload, 1) := by decide +kernel
theorem dL_law_199 : decode cL_law 199 = .ok (.aload_n 0, 1) := by decide +kernel
theorem dL_law_200 : decode cL_law 200 = .ok (.iload_n 3, 1) := by decide +kernel
theorem dL_law_201 : decode cL_law 201 = .ok (.iconst 3, 1) := by decide +kernel
theorem dL_law_202 : decode cL_law 202 = .ok (.iadd, 1) := by decide +kernel
theorem dL_law_203 : decode cL_law 203 = .ok (.iaload, 1) := by decide +kernel
theorem dL_law_204 : decode cL_law 204 = .ok (.invokevirtual 22, 3) := by decide +kernel
theorem dL_law_207 : decode cL_law 207 = .ok (.if_icmp .eq 475, 3) := by decide +kernel
theorem dL_law_210 : decode cL_law 210 = .ok (.iconst 0, 1) := by decide +kernel
theorem dL_law_211 : decode cL_law 211 = .ok (.ireturn, 1) := by decide +kernel
theorem dL_law_212 : decode cL_law 212 = .ok (.aload_n 1, 1) := by decide +kernel
theorem dL_law_213 : decode cL_law 213 = .ok (.aload_n 0, 1) := by decide +kernel
theorem dL_law_214 : decode cL_law 214 = .ok (.iload_n 3, 1) := by decide +kernel
theorem dL_law_215 : decode cL_law 215 = .ok (.iconst 1, 1) := by decide +kernel
theorem dL_law_216 : decode cL_law 216 = .ok (.iadd, 1) := by decide +kernel
theorem dL_law_217 : decode cL_law 217 = .ok (.iaload, 1) := by decide +kernel
theorem dL_law_218 : decode cL_law 218 = .ok (.invokevirtual 23, 3) := by decide +kernel
theorem dL_law_221 : decode cL_law 221 = .ok (.aload_n 2, 1) := by decide +kernel
theorem dL_law_222 : decode cL_law 222 = .ok (.aload_n 0, 1) := by decide +kernel
theorem dL_law_223 : decode cL_law 223 = .ok (.iload_n 3, 1) := by decide +kernel
theorem dL_law_224 : decode cL_law 224 = .ok (.iconst 1, 1) := by decide +kernel
theorem dL_law_225 : decode cL_law 225 = .ok (.iadd, 1) := by decide +kernel
theorem dL_law_226 : decode cL_law 226 = .ok (.iaload, 1) := by decide +kernel
theorem dL_law_227 : decode cL_law 227 = .ok (.invokevirtual 27, 3) := by decide +kernel
theorem dL_law_230 : decode cL_law 230 = .ok (.if_icmp .eq 452, 3) := by decide +kernel
theorem dL_law_233 : decode cL_law 233 = .ok (.iconst 0, 1) := by decide +kernel
theorem dL_law_234 : decode cL_law 234 = .ok (.ireturn, 1) := by decide +kernel
theorem dL_law_235 : decode cL_law 235 = .ok (.aload_n 1, 1) := by decide +kernel
theorem dL_law_236 : decode cL_law 236 = .ok (.aload_n 0, 1) := by decide +kernel
theorem dL_law_237 : decode cL_law 237 = .ok (.iload_n 3, 1) := by decide +kernel
theorem dL_law_238 : decode cL_law 238 = .ok (.iconst 1, 1) := by decide +kernel
theorem dL_law_239 : decode cL_law 239 = .ok (.iadd, 1) := by decide +kernel
theorem dL_law_240 : decode cL_law 240 = .ok (.iaload, 1) := by decide +kernel
theorem dL_law_241 : decode cL_law 241 = .ok (.invokevirtual 28, 3) := by decide +kernel
theorem dL_law_244 : decode cL_law 244 = .ok (.aload_n 2, 1) := by decide +kernel
theorem dL_law_245 : decode cL_law 245 = .ok (.aload_n 0, 1) := by decide +kernel
theorem dL_law_246 : decode cL_law 246 = .ok (.iload_n 3, 1) := by decide +kernel
theorem dL_law_247 : decode cL_law 247 = .ok (.iconst 1, 1) := by decide +kernel
theorem dL_law_248 : decode cL_law 248 = .ok (.iadd, 1) := by decide +kernel
theorem dL_law_249 : decode cL_law 249 = .ok (.iaload, 1) := by decide +kernel
theorem dL_law_250 : decode cL_law 250 = .ok (.invokevirtual 31, 3) := by decide +kernel
theorem dL_law_253 : decode cL_law 253 = .ok (.if_icmp .eq 429, 3) := by decide +kernel
theorem dL_law_256 : decode cL_law 256 = .ok (.iconst 0, 1) := by decide +kernel
theorem dL_law_257 : decode cL_law 257 = .ok (.ireturn, 1) := by decide +kernel
theorem dL_law_258 : decode cL_law 258 = .ok (.aload_n 1, 1) := by decide +kernel
theorem dL_law_259 : decode cL_law 259 = .ok (.aload_n 0, 1) := by decide +kernel
theorem dL_law_260 : decode cL_law 260 = .ok (.iload_n 3, 1) := by decide +kernel
theorem dL_law_261 : decode cL_law 261 = .ok (.iconst 1, 1) := by decide +kernel
theorem dL_law_262 : decode cL_law 262 = .ok (.iadd, 1) := by decide +kernel
theorem dL_law_263 : decode cL_law 263 = .ok (.iaload, 1) := by decide +kernel
theorem dL_law_264 : decode cL_law 264 = .ok (.invokevirtual 32, 3) := by decide +kernel
theorem dL_law_267 : decode cL_law 267 = .ok (.aload_n 2, 1) := by decide +kernel
theorem dL_law_268 : decode cL_law 268 = .ok (.aload_n 0, 1) := by decide +kernel
theorem dL_law_269 : decode cL_law 269 = .ok (.iload_n 3, 1) := by decide +kernel
theorem dL_law_270 : decode cL_law 270 = .ok (.iconst 1, 1) := by decide +kernel
theorem dL_law_271 : decode cL_law 271 = .ok (.iadd, 1) := by decide +kernel
theorem dL_law_272 : decode cL_law 272 = .ok (.iaload, 1) := by decide +kernel
theorem dL_law_273 : decode cL_law 273 = .ok (.invokevirtual 35, 3) := by decide +kernel
theorem dL_law_276 : decode cL_law 276 = .ok (.if_icmp .eq 406, 3) := by decide +kernel
theorem dL_law_279 : decode cL_law 279 = .ok (.iconst 0, 1) := by decide +kernel
theorem dL_law_280 : decode cL_law 280 = .ok (.ireturn, 1) := by decide +kernel
theorem dL_law_281 : decode cL_law 281 = .ok (.aload_n 1, 1) := by decide +kernel
theorem dL_law_282 : decode cL_law 282 = .ok (.aload_n 0, 1) := by decide +kernel
theorem dL_law_283 : decode cL_law 283 = .ok (.iload_n 3, 1) := by decide +kernel
theorem dL_law_284 : decode cL_law 284 = .ok (.iconst 1, 1) := by decide +kernel
theorem dL_law_285 : decode cL_law 285 = .ok (.iadd, 1) := by decide +kernel
theorem dL_law_286 : decode cL_law 286 = .ok (.iaload, 1) := by decide +kernel
theorem dL_law_287 : decode cL_law 287 = .ok (.invokevirtual 36, 3) := by decide +kernel
theorem dL_law_290 : decode cL_law 290 = .ok (.aload_n 2, 1) := by decide +kernel
theorem dL_law_291 : decode cL_law 291 = .ok (.aload_n 0, 1) := by decide +kernel
theorem dL_law_292 : decode cL_law 292 = .ok (.iload_n 3, 1) := by decide +kernel
theorem dL_law_293 : decode cL_law 293 = .ok (.iconst 1, 1) := by decide +kernel
theorem dL_law_294 : decode cL_law 294 = .ok (.iadd, 1) := by decide +kernel
theorem dL_law_295 : decode cL_law 295 = .ok (.iaload, 1) := by decide +kernel
theorem dL_law_296 : decode cL_law 296 = .ok (.invokevirtual 39, 3) := by decide +kernel
theorem dL_law_299 : decode cL_law 299 = .ok (.if_icmp .eq 383, 3) := by decide +kernel
theorem dL_law_302 : decode cL_law 302 = .ok (.iconst 0, 1) := by decide +kernel
theorem dL_law_303 : decode cL_law 303 = .ok (.ireturn, 1) := by decide +kernel
theorem dL_law_304 : decode cL_law 304 = .ok (.aload_n 1, 1) := by decide +kernel
theorem dL_law_305 : decode cL_law 305 = .ok (.invokevirtual 40, 3) := by decide +kernel
theorem dL_law_308 : decode cL_law 308 = .ok (.aload_n 2, 1) := by decide +kernel
theorem dL_law_309 : decode cL_law 309 = .ok (.invokevirtual 44, 3) := by decide +kernel
theorem dL_law_312 : decode cL_law 312 = .ok (.if_icmp .eq 370, 3) := by decide +kernel
theorem dL_law_315 : decode cL_law 315 = .ok (.iconst 0, 1) := by decide +kernel
theorem dL_law_316 : decode cL_law 316 = .ok (.ireturn, 1) := by decide +kernel
theorem dL_law_317 : decode cL_law 317 = .ok (.aload_n 1, 1) := by decide +kernel
theorem dL_law_318 : decode cL_law 318 = .ok (.aload_n 0, 1) := by decide +kernel
theorem dL_law_319 : decode cL_law 319 = .ok (.iload_n 3, 1) := by decide +kernel
theorem dL_law_320 : decode cL_law 320 = .ok (.iconst 1, 1) := by decide +kernel
theorem dL_law_321 : decode cL_law 321 = .ok (.iadd, 1) := by decide +kernel
theorem dL_law_322 : decode cL_law 322 = .ok (.iaload, 1) := by decide +kernel
theorem dL_law_323 : decode cL_law 323 = .ok (.aload_n 0, 1) := by decide +kernel
theorem dL_law_324 : decode cL_law 324 = .ok (.iload_n 3, 1) := by decide +kernel
theorem dL_law_325 : decode cL_law 325 = .ok (.iconst 2, 1) := by decide +kernel
theorem dL_law_326 : decode cL_law 326 = .ok (.iadd, 1) := by decide +kernel
theorem dL_law_327 : decode cL_law 327 = .ok (.iaload, 1) := by decide +kernel
theorem dL_law_328 : decode cL_law 328 = .ok (.invokevirtual 45, 3) := by decide +kernel
theorem dL_law_331 : decode cL_law 331 = .ok (.aload_n 2, 1) := by decide +kernel
theorem dL_law_332 : decode cL_law 332 = .ok (.aload_n 0, 1) := by decide +kernel
theorem dL_law_333 : decode cL_law 333 = .ok (.iload_n 3, 1) := by decide +kernel
theorem dL_law_334 : decode cL_law 334 = .ok (.iconst 1, 1) := by decide +kernel
theorem dL_law_335 : decode cL_law 335 = .ok (.iadd, 1) := by decide +kernel
theorem dL_law_336 : decode cL_law 336 = .ok (.iaload, 1) := by decide +kernel
theorem dL_law_337 : decode cL_law 337 = .ok (.aload_n 0, 1) := by decide +kernel
theorem dL_law_338 : decode cL_law 338 = .ok (.iload_n 3, 1) := by decide +kernel
theorem dL_law_339 : decode cL_law 339 = .ok (.iconst 2, 1) := by decide +kernel
theorem dL_law_340 : decode cL_law 340 = .ok (.iadd, 1) := by decide +kernel
theorem dL_law_341 : decode cL_law 341 = .ok (.iaload, 1) := by decide +kernel
theorem dL_law_342 : decode cL_law 342 = .ok (.invokevirtual 48, 3) := by decide +kernel
theorem dL_law_345 : decode cL_law 345 = .ok (.if_icmp .eq 337, 3) := by decide +kernel
theorem dL_law_348 : decode cL_law 348 = .ok (.iconst 0, 1) := by decide +kernel
theorem dL_law_349 : decode cL_law 349 = .ok (.ireturn, 1) := by decide +kernel
theorem dL_law_350 : decode cL_law 350 = .ok (.aload_n 1, 1) := by decide +kernel
theorem dL_law_351 : decode cL_law 351 = .ok (.aload_n 0, 1) := by decide +kernel
theorem dL_law_352 : decode cL_law 352 = .ok (.iload_n 3, 1) := by decide +kernel
theorem dL_law_353 : decode cL_law 353 = .ok (.iconst 1, 1) := by decide +kernel
theorem dL_law_354 : decode cL_law 354 = .ok (.iadd, 1) := by decide +kernel
theorem dL_law_355 : decode cL_law 355 = .ok (.iaload, 1) := by decide +kernel
theorem dL_law_356 : decode cL_law 356 = .ok (.invokevirtual 49, 3) := by decide +kernel
theorem dL_law_359 : decode cL_law 359 = .ok (.aload_n 2, 1) := by decide +kernel
theorem dL_law_360 : decode cL_law 360 = .ok (.aload_n 0, 1) := by decide +kernel
theorem dL_law_361 : decode cL_law 361 = .ok (.iload_n 3, 1) := by decide +kernel
theorem dL_law_362 : decode cL_law 362 = .ok (.iconst 1, 1) := by decide +kernel
theorem dL_law_363 : decode cL_law 363 = .ok (.iadd, 1) := by decide +kernel
theorem dL_law_364 : decode cL_law 364 = .ok (.iaload, 1) := by decide +kernel
theorem dL_law_365 : decode cL_law 365 = .ok (.invokevirtual 52, 3) := by decide +kernel
theorem dL_law_368 : decode cL_law 368 = .ok (.if_icmp .eq 314, 3) := by decide +kernel
theorem dL_law_371 : decode cL_law 371 = .ok (.iconst 0, 1) := by decide +kernel
theorem dL_law_372 : decode cL_law 372 = .ok (.ireturn, 1) := by decide +kernel
theorem dL_law_373 : decode cL_law 373 = .ok (.aload_n 1, 1) := by decide +kernel
theorem dL_law_374 : decode cL_law 374 = .ok (.aload_n 0, 1) := by decide +kernel
theorem dL_law_375 : decode cL_law 375 = .ok (.iload_n 3, 1) := by decide +kernel
theorem dL_law_376 : decode cL_law 376 = .ok (.iconst 1, 1) := by decide +kernel
theorem dL_law_377 : decode cL_law 377 = .ok (.iadd, 1) := by decide +kernel
theorem dL_law_378 : decode cL_law 378 = .ok (.iaload, 1) := by decide +kernel
theorem dL_law_379 : decode cL_law 379 = .ok (.aload_n 0, 1) := by decide +kernel
theorem dL_law_380 : decode cL_law 380 = .ok (.iload_n 3, 1) := by decide +kernel
theorem dL_law_381 : decode cL_law 381 = .ok (.iconst 2, 1) := by decide +kernel
theorem dL_law_382 : decode cL_law 382 = .ok (.iadd, 1) := by decide +kernel
theorem dL_law_383 : decode cL_law 383 = .ok (.iaload, 1) := by decide +kernel
theorem dL_law_384 : decode cL_law 384 = .ok (.invokevirtual 53, 3) := by decide +kernel
theorem dL_law_387 : decode cL_law 387 = .ok (.aload_n 2, 1) := by decide +kernel
theorem dL_law_388 : decode cL_law 388 = .ok (.aload_n 0, 1) := by decide +kernel
theorem dL_law_389 : decode cL_law 389 = .ok (.iload_n 3, 1) := by decide +kernel
theorem dL_law_390 : decode cL_law 390 = .ok (.iconst 1, 1) := by decide +kernel
theorem dL_law_391 : decode cL_law 391 = .ok (.iadd, 1) := by decide +kernel
theorem dL_law_392 : decode cL_law 392 = .ok (.iaload, 1) := by decide +kernel
theorem dL_law_393 : decode cL_law 393 = .ok (.aload_n 0, 1) := by decide +kernel
theorem dL_law_394 : decode cL_law 394 = .ok (.iload_n 3, 1) := by decide +kernel
theorem dL_law_395 : decode cL_law 395 = .ok (.iconst 2, 1) := by decide +kernel
theorem dL_law_396 : decode cL_law 396 = .ok (.iadd, 1) := by decide +kernel
theorem dL_law_397 : decode cL_law 397 = .ok (.iaload, 1) := by decide +kernel
theorem dL_law_398 : decode cL_law 398 = .ok (.invokevirtual 56, 3) := by decide +kernel
theorem dL_law_401 : decode cL_law 401 = .ok (.if_icmp .eq 281, 3) := by decide +kernel
theorem dL_law_404 : decode cL_law 404 = .ok (.iconst 0, 1) := by decide +kernel
theorem dL_law_405 : decode cL_law 405 = .ok (.ireturn, 1) := by decide +kernel
theorem dL_law_406 : decode cL_law 406 = .ok (.aload_n 1, 1) := by decide +kernel
theorem dL_law_407 : decode cL_law 407 = .ok (.aload_n 0, 1) := by decide +kernel
theorem dL_law_408 : decode cL_law 408 = .ok (.iload_n 3, 1) := by decide +kernel
theorem dL_law_409 : decode cL_law 409 = .ok (.iconst 1, 1) := by decide +kernel
theorem dL_law_410 : decode cL_law 410 = .ok (.iadd, 1) := by decide +kernel
theorem dL_law_411 : decode cL_law 411 = .ok (.iaload, 1) := by decide +kernel
theorem dL_law_412 : decode cL_law 412 = .ok (.invokevirtual 57, 3) := by decide +kernel
theorem dL_law_415 : decode cL_law 415 = .ok (.aload_n 2, 1) := by decide +kernel
theorem dL_law_416 : decode cL_law 416 = .ok (.aload_n 0, 1) := by decide +kernel
theorem dL_law_417 : decode cL_law 417 = .ok (.iload_n 3, 1) := by decide +kernel
theorem dL_law_418 : decode cL_law 418 = .ok (.iconst 1, 1) := by decide +kernel
theorem dL_law_419 : decode cL_law 419 = .ok (.iadd, 1) := by decide +kernel
theorem dL_law_420 : decode cL_law 420 = .ok (.iaload, 1) := by decide +kernel
theorem dL_law_421 : decode cL_law 421 = .ok (.invokevirtual 60, 3) := by decide +kernel
theorem dL_law_424 : decode cL_law 424 = .ok (.if_icmp .eq 258, 3) := by decide +kernel
theorem dL_law_427 : decode cL_law 427 = .ok (.iconst 0, 1) := by decide +kernel
theorem dL_law_428 : decode cL_law 428 = .ok (.ireturn, 1) := by decide +kernel
theorem dL_law_429 : decode cL_law 429 = .ok (.aload_n 1, 1) := by decide +kernel
theorem dL_law_430 : decode cL_law 430 = .ok (.aload_n 0, 1) := by decide +kernel
theorem dL_law_431 : decode cL_law 431 = .ok (.iload_n 3, 1) := by decide +kernel
theorem dL_law_432 : decode cL_law 432 = .ok (.iconst 1, 1) := by decide +kernel
theorem dL_law_433 : decode cL_law 433 = .ok (.iadd, 1) := by decide +kernel
theorem dL_law_434 : decode cL_law 434 = .ok (.iaload, 1) := by decide +kernel
theorem dL_law_435 : decode cL_law 435 = .ok (.invokevirtual 61, 3) := by decide +kernel
theorem dL_law_438 : decode cL_law 438 = .ok (.aload_n 2, 1) := by decide +kernel
theorem dL_law_439 : decode cL_law 439 = .ok (.aload_n 0, 1) := by decide +kernel
theorem dL_law_440 : decode cL_law 440 = .ok (.iload_n 3, 1) := by decide +kernel
theorem dL_law_441 : decode cL_law 441 = .ok (.iconst 1, 1) := by decide +kernel
theorem dL_law_442 : decode cL_law 442 = .ok (.iadd, 1) := by decide +kernel
theorem dL_law_443 : decode cL_law 443 = .ok (.iaload, 1) := by decide +kernel
theorem dL_law_444 : decode cL_law 444 = .ok (.invokevirtual 64, 3) := by decide +kernel
theorem dL_law_447 : decode cL_law 447 = .ok (.if_icmp .eq 235, 3) := by decide +kernel
theorem dL_law_450 : decode cL_law 450 = .ok (.iconst 0, 1) := by decide +kernel
theorem dL_law_451 : decode cL_law 451 = .ok (.ireturn, 1) := by decide +kernel
theorem dL_law_452 : decode cL_law 452 = .ok (.aload_n 1, 1) := by decide +kernel
theorem dL_law_453 : decode cL_law 453 = .ok (.invokevirtual 65, 3) := by decide +kernel
theorem dL_law_456 : decode cL_law 456 = .ok (.aload_n 2, 1) := by decide +kernel
theorem dL_law_457 : decode cL_law 457 = .ok (.invokevirtual 68, 3) := by decide +kernel
theorem dL_law_460 : decode cL_law 460 = .ok (.if_icmp .eq 222, 3) := by decide +kernel
theorem dL_law_463 : decode cL_law 463 = .ok (.iconst 0, 1) := by decide +kernel
theorem dL_law_464 : decode cL_law 464 = .ok (.ireturn, 1) := by decide +kernel
theorem dL_law_465 : decode cL_law 465 = .ok (.aload_n 1, 1) := by decide +kernel
theorem dL_law_466 : decode cL_law 466 = .ok (.aload_n 0, 1) := by decide +kernel
theorem dL_law_467 : decode cL_law 467 = .ok (.iload_n 3, 1) := by decide +kernel
theorem dL_law_468 : decode cL_law 468 = .ok (.iconst 1, 1) := by decide +kernel
theorem dL_law_469 : decode cL_law 469 = .ok (.iadd, 1) := by decide +kernel
theorem dL_law_470 : decode cL_law 470 = .ok (.iaload, 1) := by decide +kernel
theorem dL_law_471 : decode cL_law 471 = .ok (.invokevirtual 69, 3) := by decide +kernel
theorem dL_law_474 : decode cL_law 474 = .ok (.aload_n 2, 1) := by decide +kernel
theorem dL_law_475 : decode cL_law 475 = .ok (.aload_n 0, 1) := by decide +kernel
theorem dL_law_476 : decode cL_law 476 = .ok (.iload_n 3, 1) := by decide +kernel
theorem dL_law_477 : decode cL_law 477 = .ok (.iconst 1, 1) := by decide +kernel
theorem dL_law_478 : decode cL_law 478 = .ok (.iadd, 1) := by decide +kernel
theorem dL_law_479 : decode cL_law 479 = .ok (.iaload, 1) := by decide +kernel
theorem dL_law_480 : decode cL_law 480 = .ok (.invokevirtual 72, 3) := by decide +kernel
theorem dL_law_483 : decode cL_law 483 = .ok (.if_icmp .eq 199, 3) := by decide +kernel
theorem dL_law_486 : decode cL_law 486 = .ok (.iconst 0, 1) := by decide +kernel
theorem dL_law_487 : decode cL_law 487 = .ok (.ireturn, 1) := by decide +kernel
theorem dL_law_488 : decode cL_law 488 = .ok (.aload_n 1, 1) := by decide +kernel
theorem dL_law_489 : decode cL_law 489 = .ok (.aload_n 0, 1) := by decide +kernel
theorem dL_law_490 : decode cL_law 490 = .ok (.iload_n 3, 1) := by decide +kernel
theorem dL_law_491 : decode cL_law 491 = .ok (.iconst 1, 1) := by decide +kernel
theorem dL_law_492 : decode cL_law 492 = .ok (.iadd, 1) := by decide +kernel
theorem dL_law_493 : decode cL_law 493 = .ok (.iaload, 1) := by decide +kernel
theorem dL_law_494 : decode cL_law 494 = .ok (.aload_n 0, 1) := by decide +kernel
theorem dL_law_495 : decode cL_law 495 = .ok (.iload_n 3, 1) := by decide +kernel
theorem dL_law_496 : decode cL_law 496 = .ok (.iconst 2, 1) := by decide +kernel
theorem dL_law_497 : decode cL_law 497 = .ok (.iadd, 1) := by decide +kernel
theorem dL_law_498 : decode cL_law 498 = .ok (.iaload, 1) := by decide +kernel
theorem dL_law_499 : decode cL_law 499 = .ok (.aload_n 0, 1) := by decide +kernel
theorem dL_law_500 : decode cL_law 500 = .ok (.iload_n 3, 1) := by decide +kernel
theorem dL_law_501 : decode cL_law 501 = .ok (.iconst 3, 1) := by decide +kernel
theorem dL_law_502 : decode cL_law 502 = .ok (.iadd, 1) := by decide +kernel
theorem dL_law_503 : decode cL_law 503 = .ok (.iaload, 1) := by decide +kernel
theorem dL_law_504 : decode cL_law 504 = .ok (.invokevirtual 73, 3) := by decide +kernel
theorem dL_law_507 : decode cL_law 507 = .ok (.aload_n 2, 1) := by decide +kernel
theorem dL_law_508 : decode cL_law 508 = .ok (.aload_n 0, 1) := by decide +kernel
theorem dL_law_509 : decode cL_law 509 = .ok (.iload_n 3, 1) := by decide +kernel
theorem dL_law_510 : decode cL_law 510 = .ok (.iconst 1, 1) := by decide +kernel
theorem dL_law_511 : decode cL_law 511 = .ok (.iadd, 1) := by decide +kernel
theorem dL_law_512 : decode cL_law 512 = .ok (.iaload, 1) := by decide +kernel
theorem dL_law_513 : decode cL_law 513 = .ok (.aload_n 0, 1) := by decide +kernel
theorem dL_law_514 : decode cL_law 514 = .ok (.iload_n 3, 1) := by decide +kernel
theorem dL_law_515 : decode cL_law 515 = .ok (.iconst 2, 1) := by decide +kernel
theorem dL_law_516 : decode cL_law 516 = .ok (.iadd, 1) := by decide +kernel
theorem dL_law_517 : decode cL_law 517 = .ok (.iaload, 1) := by decide +kernel
theorem dL_law_518 : decode cL_law 518 = .ok (.aload_n 0, 1) := by decide +kernel
theorem dL_law_519 : decode cL_law 519 = .ok (.iload_n 3, 1) := by decide +kernel
theorem dL_law_520 : decode cL_law 520 = .ok (.iconst 3, 1) := by decide +kernel
theorem dL_law_521 : decode cL_law 521 = .ok (.iadd, 1) := by decide +kernel
theorem dL_law_522 : decode cL_law 522 = .ok (.iaload, 1) := by decide +kernel
theorem dL_law_523 : decode cL_law 523 = .ok (.invokevirtual 76, 3) := by decide +kernel
theorem dL_law_526 : decode cL_law 526 = .ok (.if_icmp .eq 156, 3) := by decide +kernel
theorem dL_law_529 : decode cL_law 529 = .ok (.iconst 0, 1) := by decide +kernel
theorem dL_law_530 : decode cL_law 530 = .ok (.ireturn, 1) := by decide +kernel
theorem dL_law_531 : decode cL_law 531 = .ok (.aload_n 1, 1) := by decide +kernel
theorem dL_law_532 : decode cL_law 532 = .ok (.aload_n 0, 1) := by decide +kernel
theorem dL_law_533 : decode cL_law 533 = .ok (.iload_n 3, 1) := by decide +kernel
theorem dL_law_534 : decode cL_law 534 = .ok (.iconst 1, 1) := by decide +kernel
theorem dL_law_535 : decode cL_law 535 = .ok (.iadd, 1) := by decide +kernel
theorem dL_law_536 : decode cL_law 536 = .ok (.iaload, 1) := by decide +kernel
theorem dL_law_537 : decode cL_law 537 = .ok (.i2l, 1) := by decide +kernel
theorem dL_law_538 : decode cL_law 538 = .ok (.bipush 32, 2) := by decide +kernel
theorem dL_law_540 : decode cL_law 540 = .ok (.lshl, 1) := by decide +kernel
theorem dL_law_541 : decode cL_law 541 = .ok (.aload_n 0, 1) := by decide +kernel
theorem dL_law_542 : decode cL_law 542 = .ok (.iload_n 3, 1) := by decide +kernel
theorem dL_law_543 : decode cL_law 543 = .ok (.iconst 2, 1) := by decide +kernel
theorem dL_law_544 : decode cL_law 544 = .ok (.iadd, 1) := by decide +kernel
theorem dL_law_545 : decode cL_law 545 = .ok (.iaload, 1) := by decide +kernel
theorem dL_law_546 : decode cL_law 546 = .ok (.i2l, 1) := by decide +kernel
theorem dL_law_547 : decode cL_law 547 = .ok (.ldc2_w 77, 3) := by decide +kernel
theorem dL_law_550 : decode cL_law 550 = .ok (.land, 1) := by decide +kernel
theorem dL_law_551 : decode cL_law 551 = .ok (.lor, 1) := by decide +kernel
theorem dL_law_552 : decode cL_law 552 = .ok (.invokevirtual 79, 3) := by decide +kernel
theorem dL_law_555 : decode cL_law 555 = .ok (.aload_n 2, 1) := by decide +kernel
theorem dL_law_556 : decode cL_law 556 = .ok (.aload_n 0, 1) := by decide +kernel
theorem dL_law_557 : decode cL_law 557 = .ok (.iload_n 3, 1) := by decide +kernel
theorem dL_law_558 : decode cL_law 558 = .ok (.iconst 1, 1) := by decide +kernel
theorem dL_law_559 : decode cL_law 559 = .ok (.iadd, 1) := by decide +kernel
theorem dL_law_560 : decode cL_law 560 = .ok (.iaload, 1) := by decide +kernel
theorem dL_law_561 : decode cL_law 561 = .ok (.i2l, 1) := by decide +kernel
theorem dL_law_562 : decode cL_law 562 = .ok (.bipush 32, 2) := by decide +kernel
theorem dL_law_564 : decode cL_law 564 = .ok (.lshl, 1) := by decide +kernel
theorem dL_law_565 : decode cL_law 565 = .ok (.aload_n 0, 1) := by decide +kernel
theorem dL_law_566 : decode cL_law 566 = .ok (.iload_n 3, 1) := by decide +kernel
theorem dL_law_567 : decode cL_law 567 = .ok (.iconst 2, 1) := by decide +kernel
theorem dL_law_568 : decode cL_law 568 = .ok (.iadd, 1) := by decide +kernel
theorem dL_law_569 : decode cL_law 569 = .ok (.iaload, 1) := by decide +kernel
theorem dL_law_570 : decode cL_law 570 = .ok (.i2l, 1) := by decide +kernel
theorem dL_law_571 : decode cL_law 571 = .ok (.ldc2_w 77, 3) := by decide +kernel
theorem dL_law_574 : decode cL_law 574 = .ok (.land, 1) := by decide +kernel
theorem dL_law_575 : decode cL_law 575 = .ok (.lor, 1) := by decide +kernel
theorem dL_law_576 : decode cL_law 576 = .ok (.invokevirtual 83, 3) := by decide +kernel
theorem dL_law_579 : decode cL_law 579 = .ok (.if_icmp .eq 103, 3) := by decide +kernel
theorem dL_law_582 : decode cL_law 582 = .ok (.iconst 0, 1) := by decide +kernel
theorem dL_law_583 : decode cL_law 583 = .ok (.ireturn, 1) := by decide +kernel
theorem dL_law_584 : decode cL_law 584 = .ok (.aload_n 1, 1) := by decide +kernel
theorem dL_law_585 : decode cL_law 585 = .ok (.invokevirtual 84, 3) := by decide +kernel
theorem dL_law_588 : decode cL_law 588 = .ok (.aload_n 2, 1) := by decide +kernel
theorem dL_law_589 : decode cL_law 589 = .ok (.invokevirtual 87, 3) := by decide +kernel
theorem dL_law_592 : decode cL_law 592 = .ok (.if_icmp .eq 90, 3) := by decide +kernel
theorem dL_law_595 : decode cL_law 595 = .ok (.iconst 0, 1) := by decide +kernel
theorem dL_law_596 : decode cL_law 596 = .ok (.ireturn, 1) := by decide +kernel
theorem dL_law_597 : decode cL_law 597 = .ok (.aload_n 1, 1) := by decide +kernel
theorem dL_law_598 : decode cL_law 598 = .ok (.invokevirtual 88, 3) := by decide +kernel
theorem dL_law_601 : decode cL_law 601 = .ok (.aload_n 2, 1) := by decide +kernel
theorem dL_law_602 : decode cL_law 602 = .ok (.invokevirtual 91, 3) := by decide +kernel
theorem dL_law_605 : decode cL_law 605 = .ok (.if_icmp .eq 77, 3) := by decide +kernel
theorem dL_law_608 : decode cL_law 608 = .ok (.iconst 0, 1) := by decide +kernel
theorem dL_law_609 : decode cL_law 609 = .ok (.ireturn, 1) := by decide +kernel
theorem dL_law_610 : decode cL_law 610 = .ok (.aload_n 1, 1) := by decide +kernel
theorem dL_law_611 : decode cL_law 611 = .ok (.invokevirtual 92, 3) := by decide +kernel
theorem dL_law_614 : decode cL_law 614 = .ok (.aload_n 2, 1) := by decide +kernel
theorem dL_law_615 : decode cL_law 615 = .ok (.invokevirtual 95, 3) := by decide +kernel
theorem dL_law_618 : decode cL_law 618 = .ok (.if_icmp .eq 64, 3) := by decide +kernel
theorem dL_law_621 : decode cL_law 621 = .ok (.iconst 0, 1) := by decide +kernel
theorem dL_law_622 : decode cL_law 622 = .ok (.ireturn, 1) := by decide +kernel
theorem dL_law_623 : decode cL_law 623 = .ok (.aload_n 1, 1) := by decide +kernel
theorem dL_law_624 : decode cL_law 624 = .ok (.invokevirtual 96, 3) := by decide +kernel
theorem dL_law_627 : decode cL_law 627 = .ok (.aload_n 2, 1) := by decide +kernel
theorem dL_law_628 : decode cL_law 628 = .ok (.invokevirtual 99, 3) := by decide +kernel
theorem dL_law_631 : decode cL_law 631 = .ok (.if_icmp .eq 51, 3) := by decide +kernel
theorem dL_law_634 : decode cL_law 634 = .ok (.iconst 0, 1) := by decide +kernel
theorem dL_law_635 : decode cL_law 635 = .ok (.ireturn, 1) := by decide +kernel
theorem dL_law_636 : decode cL_law 636 = .ok (.aload_n 1, 1) := by decide +kernel
theorem dL_law_637 : decode cL_law 637 = .ok (.aload_n 0, 1) := by decide +kernel
theorem dL_law_638 : decode cL_law 638 = .ok (.iload_n 3, 1) := by decide +kernel
theorem dL_law_639 : decode cL_law 639 = .ok (.iconst 1, 1) := by decide +kernel
theorem dL_law_640 : decode cL_law 640 = .ok (.iadd, 1) := by decide +kernel
theorem dL_law_641 : decode cL_law 641 = .ok (.iaload, 1) := by decide +kernel
theorem dL_law_642 : decode cL_law 642 = .ok (.invokevirtual 100, 3) := by decide +kernel
theorem dL_law_645 : decode cL_law 645 = .ok (.aload_n 2, 1) := by decide +kernel
theorem dL_law_646 : decode cL_law 646 = .ok (.aload_n 0, 1) := by decide +kernel
theorem dL_law_647 : decode cL_law 647 = .ok (.iload_n 3, 1) := by decide +kernel
theorem dL_law_648 : decode cL_law 648 = .ok (.iconst 1, 1) := by decide +kernel
theorem dL_law_649 : decode cL_law 649 = .ok (.iadd, 1) := by decide +kernel
theorem dL_law_650 : decode cL_law 650 = .ok (.iaload, 1) := by decide +kernel
theorem dL_law_651 : decode cL_law 651 = .ok (.invokevirtual 103, 3) := by decide +kernel
theorem dL_law_654 : decode cL_law 654 = .ok (.if_icmp .eq 28, 3) := by decide +kernel
theorem dL_law_657 : decode cL_law 657 = .ok (.iconst 0, 1) := by decide +kernel
theorem dL_law_658 : decode cL_law 658 = .ok (.ireturn, 1) := by decide +kernel
theorem dL_law_659 : decode cL_law 659 = .ok (.aload_n 1, 1) := by decide +kernel
theorem dL_law_660 : decode cL_law 660 = .ok (.aload_n 0, 1) := by decide +kernel
theorem dL_law_661 : decode cL_law 661 = .ok (.iload_n 3, 1) := by decide +kernel
theorem dL_law_662 : decode cL_law 662 = .ok (.iconst 1, 1) := by decide +kernel
theorem dL_law_663 : decode cL_law 663 = .ok (.iadd, 1) := by decide +kernel
theorem dL_law_664 : decode cL_law 664 = .ok (.iaload, 1) := by decide +kernel
theorem dL_law_665 : decode cL_law 665 = .ok (.invokevirtual 104, 3) := by decide +kernel
theorem dL_law_668 : decode cL_law 668 = .ok (.aload_n 2, 1) := by decide +kernel
theorem dL_law_669 : decode cL_law 669 = .ok (.aload_n 0, 1) := by decide +kernel
theorem dL_law_670 : decode cL_law 670 = .ok (.iload_n 3, 1) := by decide +kernel
theorem dL_law_671 : decode cL_law 671 = .ok (.iconst 1, 1) := by decide +kernel
theorem dL_law_672 : decode cL_law 672 = .ok (.iadd, 1) := by decide +kernel
theorem dL_law_673 : decode cL_law 673 = .ok (.iaload, 1) := by decide +kernel
theorem dL_law_674 : decode cL_law 674 = .ok (.invokevirtual 107, 3) := by decide +kernel
theorem dL_law_677 : decode cL_law 677 = .ok (.if_icmp .eq 5, 3) := by decide +kernel
theorem dL_law_680 : decode cL_law 680 = .ok (.iconst 0, 1) := by decide +kernel
theorem dL_law_681 : decode cL_law 681 = .ok (.ireturn, 1) := by decide +kernel
theorem dL_law_682 : decode cL_law 682 = .ok (.iinc 3 4, 3) := by decide +kernel
theorem dL_law_685 : decode cL_law 685 = .ok (.goto (-667), 3) := by decide +kernel
theorem dL_law_688 : decode cL_law 688 = .ok (.iconst 1, 1) := by decide +kernel
theorem dL_law_689 : decode cL_law 689 = .ok (.ireturn, 1) := by decide +kernel
end
section
/-! The environment: what the tables say beyond the words (fields of a nest mate, arrays of arrays), and the three arrays of numbers that the class keeps in statics. -/
def Wnest : List Cond := [Cond.fieldLinkNest RX6 69 "HoopStairs$Stair" "length" "I" "HoopStairs", Cond.fieldLinkNest RX7 224 "HoopStairs$Stair" "length" "I" "HoopStairs", Cond.fieldLinkNest RX7 114 "HoopStairs$Hoop" "there" "Z" "HoopStairs", Cond.fieldLinkNest RX3 28 "HoopStairs$Hoop" "size" "I" "HoopStairs", Cond.fieldLinkNest RX7 141 "HoopStairs$Hoop" "size" "I" "HoopStairs", Cond.fieldLinkNest RX6 126 "HoopStairs$Hoop" "speed" "I" "HoopStairs", Cond.fieldLinkNest RX7 144 "HoopStairs$Hoop" "speed" "I" "HoopStairs", Cond.fieldLinkNest RX6 120 "HoopStairs$Hoop" "lean" "I" "HoopStairs", Cond.fieldLinkNest RX7 147 "HoopStairs$Hoop" "lean" "I" "HoopStairs", Cond.fieldLinkNest RX7 150 "HoopStairs$Hoop" "wobble" "I" "HoopStairs", Cond.fieldLinkNest RX3 36 "HoopStairs$Hoop" "place" "I" "HoopStairs", Cond.fieldLinkNest RX6 104 "HoopStairs$Hoop" "place" "I" "HoopStairs", Cond.fieldLinkNest RX7 153 "HoopStairs$Hoop" "place" "I" "HoopStairs", Cond.fieldLinkNest RX3 33 "HoopStairs$Hoop" "ending" "I" "HoopStairs", Cond.fieldLinkNest RX6 101 "HoopStairs$Hoop" "ending" "I" "HoopStairs", Cond.fieldLinkNest RX7 156 "HoopStairs$Hoop" "ending" "I" "HoopStairs", Cond.fieldLinkNest RX3 39 "HoopStairs$Hoop" "taps" "I" "HoopStairs", Cond.fieldLinkNest RX7 159 "HoopStairs$Hoop" "taps" "I" "HoopStairs", Cond.fieldLinkNest RX7 162 "HoopStairs$Hoop" "pushes" "I" "HoopStairs", Cond.fieldLinkNest RX7 173 "HoopStairs$Hoop" "greatestLean" "I" "HoopStairs", Cond.fieldLinkNest RX7 45 "HoopStairs$State" "settings" "LHoopStairs$Settings;" "HoopStairs", Cond.fieldLinkNest RX7 70 "HoopStairs$State" "stair" "LHoopStairs$Stair;" "HoopStairs", Cond.fieldLinkNest RX7 111 "HoopStairs$State" "hoop" "LHoopStairs$Hoop;" "HoopStairs", Cond.fieldLinkNest RX7 122 "HoopStairs$State" "log" "LHoopStairs$RunLog;" "HoopStairs", Cond.fieldLinkNest RX7 134 "HoopStairs$History" "length" "I" "HoopStairs", Cond.fieldLinkNest RX7 130 "HoopStairs$Pad" "length" "I" "HoopStairs", Cond.fieldLinkNest RX7 210 "HoopStairs$Pad" "letter" "I" "HoopStairs", Cond.fieldLinkNest RX7 213 "HoopStairs$Pad" "number" "I" "HoopStairs", Cond.castable "[I" "java/lang/Cloneable"]
theorem nw_X6_69 : Cond.fieldLinkNest RX6 69 "HoopStairs$Stair" "length" "I" "HoopStairs" ∈ Wnest := List.mem_of_getElem? (i := 0) rfl
theorem nw_X7_224 : Cond.fieldLinkNest RX7 224 "HoopStairs$Stair" "length" "I" "HoopStairs" ∈ Wnest := List.mem_of_getElem? (i := 1) rfl
theorem nw_X7_114 : Cond.fieldLinkNest RX7 114 "HoopStairs$Hoop" "there" "Z" "HoopStairs" ∈ Wnest := List.mem_of_getElem? (i := 2) rfl
theorem nw_X3_28 : Cond.fieldLinkNest RX3 28 "HoopStairs$Hoop" "size" "I" "HoopStairs" ∈ Wnest := List.mem_of_getElem? (i := 3) rfl
theorem nw_X7_141 : Cond.fieldLinkNest RX7 141 "HoopStairs$Hoop" "size" "I" "HoopStairs" ∈ Wnest := List.mem_of_getElem? (i := 4) rfl
theorem nw_X6_126 : Cond.fieldLinkNest RX6 126 "HoopStairs$Hoop" "speed" "I" "HoopStairs" ∈ Wnest := List.mem_of_getElem? (i := 5) rfl
theorem nw_X7_144 : Cond.fieldLinkNest RX7 144 "HoopStairs$Hoop" "speed" "I" "HoopStairs" ∈ Wnest := List.mem_of_getElem? (i := 6) rfl
theorem nw_X6_120 : Cond.fieldLinkNest RX6 120 "HoopStairs$Hoop" "lean" "I" "HoopStairs" ∈ Wnest := List.mem_of_getElem? (i := 7) rfl
theorem nw_X7_147 : Cond.fieldLinkNest RX7 147 "HoopStairs$Hoop" "lean" "I" "HoopStairs" ∈ Wnest := List.mem_of_getElem? (i := 8) rfl
theorem nw_X7_150 : Cond.fieldLinkNest RX7 150 "HoopStairs$Hoop" "wobble" "I" "HoopStairs" ∈ Wnest := List.mem_of_getElem? (i := 9) rfl
theorem nw_X3_36 : Cond.fieldLinkNest RX3 36 "HoopStairs$Hoop" "place" "I" "HoopStairs" ∈ Wnest := List.mem_of_getElem? (i := 10) rfl
theorem nw_X6_104 : Cond.fieldLinkNest RX6 104 "HoopStairs$Hoop" "place" "I" "HoopStairs" ∈ Wnest := List.mem_of_getElem? (i := 11) rfl
theorem nw_X7_153 : Cond.fieldLinkNest RX7 153 "HoopStairs$Hoop" "place" "I" "HoopStairs" ∈ Wnest := List.mem_of_getElem? (i := 12) rfl
theorem nw_X3_33 : Cond.fieldLinkNest RX3 33 "HoopStairs$Hoop" "ending" "I" "HoopStairs" ∈ Wnest := List.mem_of_getElem? (i := 13) rfl
theorem nw_X6_101 : Cond.fieldLinkNest RX6 101 "HoopStairs$Hoop" "ending" "I" "HoopStairs" ∈ Wnest := List.mem_of_getElem? (i := 14) rfl
theorem nw_X7_156 : Cond.fieldLinkNest RX7 156 "HoopStairs$Hoop" "ending" "I" "HoopStairs" ∈ Wnest := List.mem_of_getElem? (i := 15) rfl
theorem nw_X3_39 : Cond.fieldLinkNest RX3 39 "HoopStairs$Hoop" "taps" "I" "HoopStairs" ∈ Wnest := List.mem_of_getElem? (i := 16) rfl
theorem nw_X7_159 : Cond.fieldLinkNest RX7 159 "HoopStairs$Hoop" "taps" "I" "HoopStairs" ∈ Wnest := List.mem_of_getElem? (i := 17) rfl
theorem nw_X7_162 : Cond.fieldLinkNest RX7 162 "HoopStairs$Hoop" "pushes" "I" "HoopStairs" ∈ Wnest := List.mem_of_getElem? (i := 18) rfl
theorem nw_X7_173 : Cond.fieldLinkNest RX7 173 "HoopStairs$Hoop" "greatestLean" "I" "HoopStairs" ∈ Wnest := List.mem_of_getElem? (i := 19) rfl
theorem nw_X7_45 : Cond.fieldLinkNest RX7 45 "HoopStairs$State" "settings" "LHoopStairs$Settings;" "HoopStairs" ∈ Wnest := List.mem_of_getElem? (i := 20) rfl
theorem nw_X7_70 : Cond.fieldLinkNest RX7 70 "HoopStairs$State" "stair" "LHoopStairs$Stair;" "HoopStairs" ∈ Wnest := List.mem_of_getElem? (i := 21) rfl
theorem nw_X7_111 : Cond.fieldLinkNest RX7 111 "HoopStairs$State" "hoop" "LHoopStairs$Hoop;" "HoopStairs" ∈ Wnest := List.mem_of_getElem? (i := 22) rfl
theorem nw_X7_122 : Cond.fieldLinkNest RX7 122 "HoopStairs$State" "log" "LHoopStairs$RunLog;" "HoopStairs" ∈ Wnest := List.mem_of_getElem? (i := 23) rfl
theorem nw_X7_134 : Cond.fieldLinkNest RX7 134 "HoopStairs$History" "length" "I" "HoopStairs" ∈ Wnest := List.mem_of_getElem? (i := 24) rfl
theorem nw_X7_130 : Cond.fieldLinkNest RX7 130 "HoopStairs$Pad" "length" "I" "HoopStairs" ∈ Wnest := List.mem_of_getElem? (i := 25) rfl
theorem nw_X7_210 : Cond.fieldLinkNest RX7 210 "HoopStairs$Pad" "letter" "I" "HoopStairs" ∈ Wnest := List.mem_of_getElem? (i := 26) rfl
theorem nw_X7_213 : Cond.fieldLinkNest RX7 213 "HoopStairs$Pad" "number" "I" "HoopStairs" ∈ Wnest := List.mem_of_getElem? (i := 27) rfl
theorem nw_clone : Cond.castable "[I" "java/lang/Cloneable" ∈ Wnest := List.mem_of_getElem? (i := 28) rfl
def wMv (w : Cond) : Prop := ∀ s U : State, s.WarmedH U.vm → va_Nw w s → va_Nw w U
theorem mvF {a : String} {i : Nat} {b n d h : String} : wMv (.fieldLinkNest a i b n d h) := fun _ _ hW hZ => va_Nw.warmF hW hZ
theorem mvC {a b : String} : wMv (.castable a b) := fun _ _ hW hZ => va_Nw.warmC hW hZ
theorem Wnest_mv : ∀ w ∈ Wnest, wMv w := List.forall_mem_cons.mpr ⟨mvF, List.forall_mem_cons.mpr ⟨mvF, List.forall_mem_cons.mpr ⟨mvF, List.forall_mem_cons.mpr ⟨mvF, List.forall_mem_cons.mpr ⟨mvF, List.forall_mem_cons.mpr ⟨mvF, List.forall_mem_cons.mpr ⟨mvF, List.forall_mem_cons.mpr ⟨mvF, List.forall_mem_cons.mpr ⟨mvF, List.forall_mem_cons.mpr ⟨mvF, List.forall_mem_cons.mpr ⟨mvF, List.forall_mem_cons.mpr ⟨mvF, List.forall_mem_cons.mpr ⟨mvF, List.forall_mem_cons.mpr ⟨mvF, List.forall_mem_cons.mpr ⟨mvF, List.forall_mem_cons.mpr ⟨mvF, List.forall_mem_cons.mpr ⟨mvF, List.forall_mem_cons.mpr ⟨mvF, List.forall_mem_cons.mpr ⟨mvF, List.forall_mem_cons.mpr ⟨mvF, List.forall_mem_cons.mpr ⟨mvF, List.forall_mem_cons.mpr ⟨mvF, List.forall_mem_cons.mpr ⟨mvF, List.forall_mem_cons.mpr ⟨mvF, List.forall_mem_cons.mpr ⟨mvF, List.forall_mem_cons.mpr ⟨mvF, List.forall_mem_cons.mpr ⟨mvF, List.forall_mem_cons.mpr ⟨mvF, List.forall_mem_cons.mpr ⟨mvC, fun _ h => absurd h List.not_mem_nil⟩⟩⟩⟩⟩⟩⟩⟩⟩⟩⟩⟩⟩⟩⟩⟩⟩⟩⟩⟩⟩⟩⟩⟩⟩⟩⟩⟩⟩
theorem Wnest_on : Wnest.all (fun w => w.onTables) = true := by decide +kernel
def LEv (j : Nat) : Int32 := if j = 0 then 10 else if j = 1 then 0 else if j = 2 then 0 else 1
def GRv (j : Nat) : Int32 := if j = 0 then 99 else if j = 1 then 20 else if j = 2 then 20 else 30
def FIv (j : Nat) : Int32 := if j = 0 then 45 else if j = 1 then 4 else if j = 2 then 3 else 8
/-- a static array of four numbers -/
def wS1 (n : String) (v : Nat → Int32) (A : Nat → Prop) (U : State) (H : Heap) : Prop := ∃ t : Nat, va_Z "HoopStairs$Settings" n "[I" (.ref t) A U H ∧ va_T .int t 4 (fun j => .int (v j)) A U H
theorem wS1.moved {n : String} {v : Nat → Int32} {A : Nat → Prop} {u U : State} {H : Heap} (hvm : u.vm.Alike U.vm) (h : wS1 n v A u H) : wS1 n v A U H := by
  obtain ⟨t, h1, h2⟩ := h
  exact ⟨t, h1.moved hvm, h2.moved hvm⟩
theorem wS1.kept {n : String} {v : Nat → Int32} {A : Nat → Prop} {U : State} {H H1 : Heap} (h : wS1 n v A U H) (hq : ∀ a : Nat, a < H.size → ¬ A a → H1[a]? = H[a]?) : wS1 n v A U H1 := by
  obtain ⟨t, h1, h2⟩ := h
  exact ⟨t, h1.kept hq, h2.kept hq⟩
theorem wS1.narrow {n : String} {v : Nat → Int32} {A B : Nat → Prop} {U : State} {H : Heap} (h : wS1 n v A U H) (hAB : ∀ q, B q → A q) : wS1 n v B U H := by
  obtain ⟨t, h1, h2⟩ := h
  exact ⟨t, h1.narrow hAB, h2.narrow hAB⟩
def wSt (A : Nat → Prop) (U : State) (H : Heap) : Prop := wS1 "LEAST" LEv A U H ∧ wS1 "GREATEST" GRv A U H ∧ wS1 "FIRST" FIv A U H
theorem wSt.moved {A : Nat → Prop} {u U : State} {H : Heap} (hvm : u.vm.Alike U.vm) (h : wSt A u H) : wSt A U H := ⟨h.1.moved hvm, h.2.1.moved hvm, h.2.2.moved hvm⟩
theorem wSt.kept {A : Nat → Prop} {U : State} {H H1 : Heap} (h : wSt A U H) (hq : ∀ a : Nat, a < H.size → ¬ A a → H1[a]? = H[a]?) : wSt A U H1 := ⟨h.1.kept hq, h.2.1.kept hq, h.2.2.kept hq⟩
theorem wSt.narrow {A B : Nat → Prop} {U : State} {H : Heap} (h : wSt A U H) (hAB : ∀ q, B q → A q) : wSt B U H := ⟨h.1.narrow hAB, h.2.1.narrow hAB, h.2.2.narrow hAB⟩
def va_AOA (ty : FieldType) (U : State) : Prop := (Cond.arrayOver (.array ty)).before #[] U = true
theorem va_AOA.use {ty : FieldType} {A : Array Value} {U : State} (h : va_AOA ty U) : (Cond.arrayOver (.array ty)).before A U = true := h
theorem va_AOA.moved {ty : FieldType} {u U : State} (hvm : u.vm.Alike U.vm) (h : va_AOA ty u) : va_AOA ty U := by
  have e := Cond.arrayOver_setVmC (args := #[]) hvm (.array ty)
  have e2 : (Cond.arrayOver (.array ty)).before #[] U = (Cond.arrayOver (.array ty)).before #[] (u.setVm U.vm) := rfl
  unfold va_AOA
  rw [e2, e]
  exact h
def wN (U : State) : Prop := (∀ w ∈ Wnest, va_Nw w U) ∧ va_AO "HoopStairs$State" U ∧ va_AOA .int U
theorem wN.warm {s U : State} (hW : s.WarmedH U.vm) (h : wN s) : wN U := ⟨fun w hw => Wnest_mv w hw s U hW (h.1 w hw), h.2.1.moved hW.alike, h.2.2.moved hW.alike⟩
theorem wN.same {u U : State} (hv : u.vm = U.vm) (h : wN u) : wN U := ⟨fun w hw => va_Nw.same (List.all_eq_true.mp Wnest_on w hw) hv (h.1 w hw), h.2.1.moved (by rw [hv]; exact Vm.Alike.refl _), h.2.2.moved (by rw [hv]; exact Vm.Alike.refl _)⟩
def wEnv (A : Nat → Prop) (U : State) : Prop := wN U ∧ wSt A U U.heap
end
section
/-! The world by places, a frame rule for free: every method is given the whole world (place i: the cell at ad i, holding C i) and says what C is behind it. Rows of the kit, said for such worlds. -/
def wld (ad : Nat → Nat) (N : Nat) (C : Nat → va_E) : va_W := (List.range N).map (fun i => (ad i, C i))
def wA (ad : Nat → Nat) (N : Nat) : Nat → Prop := fun q => ∃ i, i < N ∧ q = ad i
def wI (ad : Nat → Nat) (N : Nat) : Prop := ∀ i j, i < N → j < N → ad i = ad j → i = j
theorem wld_at {ad : Nat → Nat} {N : Nat} {C : Nat → va_E} {i : Nat} {e : va_E} (h : i < N) (hC : C i = e) : (wld ad N C)[i]? = some (ad i, e) := by
  subst hC
  unfold wld
  rw [List.getElem?_map, List.getElem?_range h]
  rfl
theorem wld_inv {ad : Nat → Nat} {N : Nat} {C : Nat → va_E} {k : Nat} {q : Nat × va_E} (h : (wld ad N C)[k]? = some q) : k < N ∧ q = (ad k, C k) := by
  by_cases hk : k < N
  · rw [wld_at hk rfl] at h
    cases h
    exact ⟨hk, rfl⟩
  · unfold wld at h
    rw [List.getElem?_map, List.getElem?_eq_none (by rw [List.length_range]; omega)] at h
    cases h
theorem wld_len {ad : Nat → Nat} {N : Nat} {C : Nat → va_E} : (wld ad N C).length = N := by
  unfold wld
  rw [List.length_map, List.length_range]
theorem wld_set {ad : Nat → Nat} {N : Nat} {C C1 : Nat → va_E} {i : Nat} {e : va_E} (h : ∀ j, va_up C i e j = C1 j) : (wld ad N C).set i (ad i, e) = wld ad N C1 := by
  apply List.ext_getElem?
  intro j
  by_cases hj : j < N
  · rw [wld_at hj rfl]
    by_cases hij : j = i
    · subst hij
      rw [List.getElem?_set_self (by rw [wld_len]; exact hj), ← h j, va_up_self]
    · rw [List.getElem?_set_ne (Ne.symm hij), wld_at hj rfl, ← h j, va_up_ne _ _ hij]
  · rw [List.getElem?_eq_none (by rw [List.length_set, wld_len]; omega), List.getElem?_eq_none (by rw [wld_len]; omega)]
theorem wld_congr {ad : Nat → Nat} {N : Nat} {C C1 : Nat → va_E} (h : ∀ j, j < N → C j = C1 j) : wld ad N C = wld ad N C1 := by
  unfold wld
  apply List.map_congr_left
  intro j hj
  rw [h j (List.mem_range.mp hj)]
theorem wD {ad : Nat → Nat} {N : Nat} {C : Nat → va_E} (hI : wI ad N) : va_D (wA ad N) (wld ad N C) :=
  ⟨fun i j x y hx hy hxy => by
    obtain ⟨hi, rfl⟩ := wld_inv hx
    obtain ⟨hj, rfl⟩ := wld_inv hy
    exact hI i j hi hj hxy, fun k q hk => by
    obtain ⟨h, rfl⟩ := wld_inv hk
    exact ⟨k, h, rfl⟩⟩
/-- the kinds of arrays: int, boolean, State[], int[][] -/
abbrev tyH (Y : Nat → ClassId) : List (ClassId × FieldType) := [(Y 0, .int), (Y 1, .boolean), (Y 2, .object "HoopStairs$State"), (Y 3, .array .int)]
abbrev wP (D : va_G) (ad : Nat → Nat) (N : Nat) (C : Nat → va_E) (H : Heap) : Prop := va_P D vwCl (wld ad N C) H
/-- what is fixed in a method's walk -/
def wFix (p : Program) (s : State) (m : MethodId) (c : Code) (args : Array Value) (cc : ByteArray) (own : String) (nL : Nat) (D : va_G) (Y : Nat → ClassId) (ad : Nat → Nat) (N : Nat) : Prop :=
  p.tables.exec = Jvm.exec ∧ c.code = cc ∧ c.maxLocals = nL ∧ s.vm.findClass own = some m.cls ∧ (∀ w ∈ Wall, w.before args s = true) ∧ va_K D vwCl (tyH Y) s ∧ wEnv (wA ad N) s
abbrev wPc (D : va_G) (Y : Nat → ClassId) (ad : Nat → Nat) (N : Nat) (as : List Value) (C : Nat → va_E) : Array Value → State → Prop :=
  va_Pc as (fun U => wP D ad N C U.heap ∧ va_K D vwCl (tyH Y) U ∧ wEnv (wA ad N) U)
abbrev wQi (D : va_G) (ad : Nat → Nat) (N : Nat) (post : Int32 → (Nat → va_E) → Prop) : Array Value → State → Outcome → State → Prop :=
  va_Qi post (fun (C' : Nat → va_E) t => wP D ad N C' t.heap) (wA ad N)
abbrev wQv (D : va_G) (ad : Nat → Nat) (N : Nat) (post : (Nat → va_E) → Prop) : Array Value → State → Outcome → State → Prop :=
  va_Qv post (fun (C' : Nat → va_E) t => wP D ad N C' t.heap) (wA ad N)
/-- a method's contract begins -/
theorem wMet {l : Launch} {y : MethodName} {b : ByteArray} {n : Nat} {ret : Option FieldType} {rm : Room} {D : va_G} {Y : Nat → ClassId} {ad : Nat → Nat} {N : Nat} {as : List Value} {C : Nat → va_E} {Qc : Array Value → State → Outcome → State → Prop} {free : Addr → Prop} (own : String) (ho : y.cls = own) (hy : plainName y.cls = true) (hlen : (lg_sl as).length ≤ n) {lv : List (Nat × Value)} (hlv : lv_args 0 as = lv)
    (k : ∀ p e s m below meth c ls, wFix p s m c as.toArray b own n D Y ad N → meth.sig.returnType = ret → meth.locks = false → wP D ad N C s.heap → lv_has ls n lv → W p l e rm s m as.toArray below meth c s.heap [] 0 0 (MQ below Qc as.toArray s 0 0 free) (F0 m 0 ls [])) :
    Met l y (wm y b n ret) rm (wPc D Y ad N as C) Qc 0 0 free := by
  refine Met.ofW (cc := b) (maxL := n) (ret := ret) hy rfl ?_
  intro p e s m args below meth c s₁ B hml hv
  obtain ⟨rfl, hP, hK, hE⟩ := hv
  have hts := atoms_spec (ws := wm y b n ret) B.pre
  have hl := lv_entry as (n := n) hlen
  rw [hlv] at hl
  rw [lg_entry_eq]
  exact k p e s m below meth c _ ⟨B.exec, B.bytes, hml, by rw [← ho]; exact findClass_of_methodNamed B.named, fun w hw => hts w (wm_in hw), hK, hE⟩ B.returns B.notSynchronized hP hl
theorem wPc_blind {D : va_G} {Y : Nat → ClassId} {ad : Nat → Nat} {N : Nat} {as : List Value} {C : Nat → va_E} : FrameBlind (wPc D Y ad N as C) :=
  fun a U g mk q => ⟨q.1, q.2.1, va_K.moved (u := U) (U := U.calling g mk a) (Vm.Alike.refl U.vm) q.2.2.1, wN.same (u := U) (U := U.calling g mk a) rfl q.2.2.2.1, wSt.moved (u := U) (U := U.calling g mk a) (Vm.Alike.refl U.vm) q.2.2.2.2⟩
theorem wEnv_at {p : Program} {s : State} {m : MethodId} {c : Code} {args : Array Value} {cc : ByteArray} {own : String} {nL : Nat} {D : va_G} {Y : Nat → ClassId} {ad : Nat → Nat} {N : Nat} {H : Heap} {locs : List Loc} {U : State} (F : wFix p s m c args cc own nL D Y ad N) (hS : va_S (wA ad N) s.heap H locs) (hU : U.heap = H) (hW : s.WarmedH U.vm) : wEnv (wA ad N) U :=
  ⟨wN.warm hW F.2.2.2.2.2.2.1, by rw [hU]; exact (F.2.2.2.2.2.2.2.kept hS.2.1).moved hW.alike⟩
section CORE
variable {p : Program} {l : Launch} {e : Env} {R : Room} {s : State} {m : MethodId} {args : Array Value} {below : List Frame} {meth : Method} {c : Code} {H : Heap} {locs : List Loc} {cells slots : Nat} {Q : State → Prop}
variable {cc : ByteArray} {pc : Nat} {ls : Array Slot} {rest : List Value} {D : va_G} {Y : Nat → ClassId} {ad : Nat → Nat} {N : Nat} {C C1 : Nat → va_E} {own : String} {nL : Nat}
theorem w_get (F : wFix p s m c args cc own nL D Y ad N) (hP : wP D ad N C H) {h ci : Nat} {fs : List Value} (hh : h < N) (hC : C h = .inr (ci, fs)) {Cn : String} {T : u_T} {Nf index : Nat} (hc : vwCl[ci]? = some (Cn, T, Nf)) (hin : ∀ w ∈ u_ws Cn T Nf, w ∈ Wall) (k : Nat) (hk : k < Nf) (hlink : Cond.fieldLink own index (T k).1 (T k).2.1 (T k).2.2.1 ∈ Wall) {v : Value} (hv : fs[k]? = some v) (hdg : decode cc pc = .ok (.getfield index, 3))
    (kk : W p l e R s m args below meth c H locs cells slots Q (F0 m (pc + 3) ls (v :: rest))) : W p l e R s m args below meth c H locs cells slots Q (F0 m pc ls (.ref (ad h) :: rest)) :=
  va_get F.1 F.2.1 (Ts := Wall) F.2.2.2.2.1 hin F.2.2.2.1 F.2.2.2.2.2.1 hP h (wld_at hh hC) hc k hk (F.2.2.2.2.1 _ hlink) (fun _ h9 => h9) hv hdg kk
theorem w_put (F : wFix p s m c args cc own nL D Y ad N) (hI : wI ad N) (hP : wP D ad N C H) (hS : va_S (wA ad N) s.heap H locs) {h ci : Nat} {fs : List Value} (hh : h < N) (hC : C h = .inr (ci, fs)) {Cn : String} {T : u_T} {Nf index : Nat} (hc : vwCl[ci]? = some (Cn, T, Nf)) (hin : ∀ w ∈ u_ws Cn T Nf, w ∈ Wall) (ty0 : Nat → FieldType) (hty : ∀ k, k < Nf → parseFieldDescriptor (T k).2.2.1 = some (ty0 k)) (hnm : ∀ a, a < Nf → ∀ b, b < Nf → a ≠ b → (T a).2.1 ≠ (T b).2.1) (k : Nat) (hk : k < Nf) (hlink : Cond.fieldLink own index (T k).1 (T k).2.1 (T k).2.2.1 ∈ Wall) (hfin : (T k).2.2.2 = false) {v : Value} (hn : narrow (ty0 k) v = v) (hfit : fits (ty0 k) v = true) (hl : k < fs.length) (hu : ∀ j, va_up C h (.inr (ci, fs.set k v)) j = C1 j) (hdg : decode cc pc = .ok (.putfield index, 3))
    (kk : ∀ (H1 : Heap) (locs1 : List Loc), wP D ad N C1 H1 → va_S (wA ad N) s.heap H1 locs1 → W p l e R s m args below meth c H1 locs1 cells slots Q (F0 m (pc + 3) ls rest)) : W p l e R s m args below meth c H locs cells slots Q (F0 m pc ls (v :: .ref (ad h) :: rest)) :=
  va_put F.1 F.2.1 (Ts := Wall) F.2.2.2.2.1 hin ty0 hty hnm F.2.2.2.1 F.2.2.2.2.2.1 hP (wD hI) hS h (wld_at hh hC) hc k hk (F.2.2.2.2.1 _ hlink) (fun _ h9 => h9) hfin (hty k hk) hn hfit hl hdg (fun H1 locs1 hP1 _ hS1 => kk H1 locs1 (by rw [wld_set hu] at hP1; exact hP1) hS1)
theorem w_getN (F : wFix p s m c args cc own nL D Y ad N) (hP : wP D ad N C H) {h ci : Nat} {fs : List Value} (hh : h < N) (hC : C h = .inr (ci, fs)) {Cn host : String} {T : u_T} {Nf index : Nat} (hc : vwCl[ci]? = some (Cn, T, Nf)) (hin : ∀ w ∈ u_ws Cn T Nf, w ∈ Wall) (k : Nat) (hk : k < Nf) (hlink : Cond.fieldLinkNest own index (T k).1 (T k).2.1 (T k).2.2.1 host ∈ Wnest) {v : Value} (hv : fs[k]? = some v) (hdg : decode cc pc = .ok (.getfield index, 3))
    (kk : W p l e R s m args below meth c H locs cells slots Q (F0 m (pc + 3) ls (v :: rest))) : W p l e R s m args below meth c H locs cells slots Q (F0 m pc ls (.ref (ad h) :: rest)) :=
  va_getN F.1 F.2.1 (Ts := Wall) F.2.2.2.2.1 hin F.2.2.2.1 F.2.2.2.2.2.1 hP h (wld_at hh hC) hc k hk (va_Nw.use rfl (F.2.2.2.2.2.2.1.1 _ hlink)) (fun _ h9 => h9) hv hdg kk
theorem w_putN (F : wFix p s m c args cc own nL D Y ad N) (hI : wI ad N) (hP : wP D ad N C H) (hS : va_S (wA ad N) s.heap H locs) {h ci : Nat} {fs : List Value} (hh : h < N) (hC : C h = .inr (ci, fs)) {Cn host : String} {T : u_T} {Nf index : Nat} (hc : vwCl[ci]? = some (Cn, T, Nf)) (hin : ∀ w ∈ u_ws Cn T Nf, w ∈ Wall) (ty0 : Nat → FieldType) (hty : ∀ k, k < Nf → parseFieldDescriptor (T k).2.2.1 = some (ty0 k)) (hnm : ∀ a, a < Nf → ∀ b, b < Nf → a ≠ b → (T a).2.1 ≠ (T b).2.1) (k : Nat) (hk : k < Nf) (hlink : Cond.fieldLinkNest own index (T k).1 (T k).2.1 (T k).2.2.1 host ∈ Wnest) (hfin : (T k).2.2.2 = false) {v : Value} (hn : narrow (ty0 k) v = v) (hfit : fits (ty0 k) v = true) (hl : k < fs.length) (hu : ∀ j, va_up C h (.inr (ci, fs.set k v)) j = C1 j) (hdg : decode cc pc = .ok (.putfield index, 3))
    (kk : ∀ (H1 : Heap) (locs1 : List Loc), wP D ad N C1 H1 → va_S (wA ad N) s.heap H1 locs1 → W p l e R s m args below meth c H1 locs1 cells slots Q (F0 m (pc + 3) ls rest)) : W p l e R s m args below meth c H locs cells slots Q (F0 m pc ls (v :: .ref (ad h) :: rest)) :=
  va_putN F.1 F.2.1 (Ts := Wall) F.2.2.2.2.1 hin ty0 hty hnm F.2.2.2.1 F.2.2.2.2.2.1 hP (wD hI) hS h (wld_at hh hC) hc k hk (va_Nw.use rfl (F.2.2.2.2.2.2.1.1 _ hlink)) (fun _ h9 => h9) hfin (hty k hk) hn hfit hl hdg (fun H1 locs1 hP1 _ hS1 => kk H1 locs1 (by rw [wld_set hu] at hP1; exact hP1) hS1)
/-- a static array's number -/
theorem w_stab (F : wFix p s m c args cc own nL D Y ad N) (hS : va_S (wA ad N) s.heap H locs) {t : Nat} {f : Nat → Int32} (hT : va_T .int t 4 (fun j => .int (f j)) (wA ad N) s s.heap) {i : Int32} {k : Nat} (hi : i = nI k) (hk : k < 4) {v : Int32} (hv : f k = v) (hdg : decode cc pc = .ok (.iaload, 1))
    (kk : W p l e R s m args below meth c H locs cells slots Q (F0 m (pc + 1) ls (.int v :: rest))) : W p l e R s m args below meth c H locs cells slots Q (F0 m pc ls (.int i :: .ref t :: rest)) := by
  subst hi
  exact va_ti F.1 F.2.1 hT hS (vp_in_nI hk (by decide)) (by rw [nI_clamp (by omega), hv]) hdg kk
theorem w_iald (F : wFix p s m c args cc own nL D Y ad N) (hP : wP D ad N C H) {h n : Nat} {f : Nat → Int32} (hh : h < N) (hC : C h = .inl (Y 0, n, .inl f)) {i : Int32} {k : Nat} (hi : i = nI k) (hk : k < n) (hn : n < 2147483648) {v : Int32} (hv : f k = v) (hdg : decode cc pc = .ok (.iaload, 1))
    (kk : W p l e R s m args below meth c H locs cells slots Q (F0 m (pc + 1) ls (.int v :: rest))) : W p l e R s m args below meth c H locs cells slots Q (F0 m pc ls (.int i :: .ref (ad h) :: rest)) := by
  subst hi
  refine va_iald F.1 F.2.1 F.2.2.2.2.2.1 hP h 0 (wld_at hh hC) rfl (vp_in_nI hk hn) hdg ?_
  rw [nI_clamp (Nat.lt_trans hk hn), hv]
  exact kk
theorem w_zald (F : wFix p s m c args cc own nL D Y ad N) (hP : wP D ad N C H) {h n : Nat} {f : Nat → Int32} (hh : h < N) (hC : C h = .inl (Y 1, n, .inl f)) {i : Int32} {k : Nat} (hi : i = nI k) (hk : k < n) (hn : n < 2147483648) {v : Int32} (hv : f k = v) (hdg : decode cc pc = .ok (.baload, 1))
    (kk : W p l e R s m args below meth c H locs cells slots Q (F0 m (pc + 1) ls (.int v :: rest))) : W p l e R s m args below meth c H locs cells slots Q (F0 m pc ls (.int i :: .ref (ad h) :: rest)) := by
  subst hi
  refine va_zald F.1 F.2.1 F.2.2.2.2.2.1 hP h 1 (wld_at hh hC) rfl (vp_in_nI hk hn) hdg ?_
  rw [nI_clamp (Nat.lt_trans hk hn), hv]
  exact kk
theorem w_iast (F : wFix p s m c args cc own nL D Y ad N) (hI : wI ad N) (hP : wP D ad N C H) (hS : va_S (wA ad N) s.heap H locs) {h n : Nat} {f : Nat → Int32} (hh : h < N) (hC : C h = .inl (Y 0, n, .inl f)) {i x : Int32} {k : Nat} (hi : i = nI k) (hk : k < n) (hn : n < 2147483648) (hu : ∀ j, va_up C h (.inl (Y 0, n, .inl (upd f k x))) j = C1 j) (hdg : decode cc pc = .ok (.iastore, 1))
    (kk : ∀ (H1 : Heap) (locs1 : List Loc), wP D ad N C1 H1 → va_S (wA ad N) s.heap H1 locs1 → W p l e R s m args below meth c H1 locs1 cells slots Q (F0 m (pc + 1) ls rest)) : W p l e R s m args below meth c H locs cells slots Q (F0 m pc ls (.int x :: .int i :: .ref (ad h) :: rest)) := by
  subst hi
  refine va_iast F.1 F.2.1 F.2.2.2.2.2.1 hP (wD hI) hS h 0 (wld_at hh hC) rfl (vp_in_nI hk hn) hdg (fun H1 locs1 hP1 _ hS1 => ?_)
  rw [nI_clamp (Nat.lt_trans hk hn), wld_set hu] at hP1
  exact kk H1 locs1 hP1 hS1
theorem w_zast (F : wFix p s m c args cc own nL D Y ad N) (hI : wI ad N) (hP : wP D ad N C H) (hS : va_S (wA ad N) s.heap H locs) {h n : Nat} {f : Nat → Int32} (hh : h < N) (hC : C h = .inl (Y 1, n, .inl f)) {i x : Int32} {k : Nat} (hi : i = nI k) (hk : k < n) (hn : n < 2147483648) (hx : vp_nar .boolean x = x) (hu : ∀ j, va_up C h (.inl (Y 1, n, .inl (upd f k x))) j = C1 j) (hdg : decode cc pc = .ok (.bastore, 1))
    (kk : ∀ (H1 : Heap) (locs1 : List Loc), wP D ad N C1 H1 → va_S (wA ad N) s.heap H1 locs1 → W p l e R s m args below meth c H1 locs1 cells slots Q (F0 m (pc + 1) ls rest)) : W p l e R s m args below meth c H locs cells slots Q (F0 m pc ls (.int x :: .int i :: .ref (ad h) :: rest)) := by
  subst hi
  refine va_zast F.1 F.2.1 F.2.2.2.2.2.1 hP (wD hI) hS h 1 (wld_at hh hC) rfl (vp_in_nI hk hn) hdg (fun H1 locs1 hP1 _ hS1 => ?_)
  rw [nI_clamp (Nat.lt_trans hk hn), hx, wld_set hu] at hP1
  exact kk H1 locs1 hP1 hS1
/-- a row of a grid -/
theorem w_gald (F : wFix p s m c args cc own nL D Y ad N) (hP : wP D ad N C H) {h n : Nat} {f : Nat → Option Nat} (hh : h < N) (hC : C h = .inl (Y 3, n, .inr (.inr (.inr (.inr f))))) {i : Int32} {k : Nat} (hi : i = nI k) (hk : k < n) (hn : n < 2147483648) {v : Nat} (hv : f k = some v) (hdg : decode cc pc = .ok (.aaload, 1))
    (kk : W p l e R s m args below meth c H locs cells slots Q (F0 m (pc + 1) ls (.ref v :: rest))) : W p l e R s m args below meth c H locs cells slots Q (F0 m pc ls (.int i :: .ref (ad h) :: rest)) := by
  subst hi
  have hlt : (nI k).toNatClampNeg < n := by rw [nI_clamp (Nat.lt_trans hk hn)]; exact hk
  refine W.aald (v := va_rf (f (nI k).toNatClampNeg)) (ty := .array .int) F.1 F.2.1 (hP h _ (wld_at hh hC)) ((F.2.2.2.2.2.1.2 3 _ rfl).1 n (fun j => va_rf (f j))) rfl (fun q => by cases q) (by show ¬ (nI k < 0 ∨ (arrV _ _ _).slots.size ≤ _); rw [arrV_size]; exact vp_in_nI hk hn) (by show (arrV _ _ _).slots[_]? = _; rw [arrV_read _ _ hlt]) rfl rfl hdg ?_
  rw [nI_clamp (Nat.lt_trans hk hn), hv]
  exact kk
/-- an object of a row of objects -/
theorem w_qald (F : wFix p s m c args cc own nL D Y ad N) (hP : wP D ad N C H) {h n : Nat} {f : Nat → Option Nat} (hh : h < N) (hC : C h = .inl (Y 2, n, .inr (.inr (.inr (.inr f))))) {i : Int32} {k : Nat} (hi : i = nI k) (hk : k < n) (hn : n < 2147483648) {v : Nat} (hv : f k = some v) (hdg : decode cc pc = .ok (.aaload, 1))
    (kk : W p l e R s m args below meth c H locs cells slots Q (F0 m (pc + 1) ls (.ref v :: rest))) : W p l e R s m args below meth c H locs cells slots Q (F0 m pc ls (.int i :: .ref (ad h) :: rest)) := by
  subst hi
  refine va_aldq F.1 F.2.1 F.2.2.2.2.2.1 hP h 2 (wld_at hh hC) rfl (vp_in_nI hk hn) hdg ?_
  rw [nI_clamp (Nat.lt_trans hk hn), hv]
  exact kk
theorem w_max (F : wFix p s m c args cc own nL D Y ad N) (hsz : ls.size = nL) {index : Nat} (hlink : Cond.methodLink own index Lib.Math.max.name ∈ Wall) (hframes : 1 ≤ R.frames) (hlocals : (rest.map fun v => v.category).sum + 13 ≤ R.locals) (hcs : cells ≤ R.cells ∧ slots ≤ R.slots) {x y : Int32} (hdg : decode cc pc = .ok (.invokestatic index, 3))
    (kk : W p l e R s m args below meth c H locs cells slots Q (F0 m (pc + 3) ls (.int (if x < y then y else x) :: rest))) : W p l e R s m args below meth c H locs cells slots Q (F0 m pc ls (.int y :: .int x :: rest)) :=
  va_mmax F.1 F.2.1 (F.2.2.1.trans hsz.symm) F.2.2.2.1 (F.2.2.2.2.1 _ hlink) (F.2.2.2.2.1 _ MW_max_static) (F.2.2.2.2.1 _ MW_math_init) (F.2.2.2.2.1 _ MW_max_code) hframes hlocals hcs.1 hcs.2 hdg kk
theorem w_min (F : wFix p s m c args cc own nL D Y ad N) (hsz : ls.size = nL) {index : Nat} (hlink : Cond.methodLink own index Lib.Math.min.name ∈ Wall) (hframes : 1 ≤ R.frames) (hlocals : (rest.map fun v => v.category).sum + 13 ≤ R.locals) (hcs : cells ≤ R.cells ∧ slots ≤ R.slots) {x y : Int32} (hdg : decode cc pc = .ok (.invokestatic index, 3))
    (kk : W p l e R s m args below meth c H locs cells slots Q (F0 m (pc + 3) ls (.int (if y < x then y else x) :: rest))) : W p l e R s m args below meth c H locs cells slots Q (F0 m pc ls (.int y :: .int x :: rest)) :=
  va_mmin F.1 F.2.1 (F.2.2.1.trans hsz.symm) F.2.2.2.1 (F.2.2.2.2.1 _ hlink) (F.2.2.2.2.1 _ MW_min_static) (F.2.2.2.2.1 _ MW_math_init) (F.2.2.2.2.1 _ MW_min_code) hframes hlocals hcs.1 hcs.2 hdg kk
theorem w_abs (F : wFix p s m c args cc own nL D Y ad N) (hsz : ls.size = nL) {index : Nat} (hlink : Cond.methodLink own index Lib.Math.abs.name ∈ Wall) (hframes : 1 ≤ R.frames) (hlocals : (rest.map fun v => v.category).sum + 13 ≤ R.locals) (hcs : cells ≤ R.cells ∧ slots ≤ R.slots) {x : Int32} (hdg : decode cc pc = .ok (.invokestatic index, 3))
    (kk : W p l e R s m args below meth c H locs cells slots Q (F0 m (pc + 3) ls (.int (if 0 ≤ x then x else 0 - x) :: rest))) : W p l e R s m args below meth c H locs cells slots Q (F0 m pc ls (.int x :: rest)) :=
  va_mabs F.1 F.2.1 (F.2.2.1.trans hsz.symm) F.2.2.2.1 (F.2.2.2.2.1 _ hlink) (F.2.2.2.2.1 _ MW_abs_static) (F.2.2.2.2.1 _ MW_math_init) (F.2.2.2.2.1 _ MW_abs_code) hframes hlocals hcs.1 hcs.2 hdg kk
/-- System.arraycopy of ints -/
theorem w_acpy (F : wFix p s m c args cc own nL D Y ad N) (hI : wI ad N) (hsz : ls.size = nL) (hP : wP D ad N C H) (hS : va_S (wA ad N) s.heap H locs) {index : Nat} (hlink : Cond.methodLink own index arraycopyName ∈ Wall) {h0 h1 n0 n1 : Nat} {f g : Nat → Int32} (hh0 : h0 < N) (hh1 : h1 < N) (hC0 : C h0 = .inl (Y 0, n0, .inl f)) (hC1 : C h1 = .inl (Y 0, n1, .inl g)) {sp dp n : Int32} {a b k : Nat} (ha : sp = nI a) (hb : dp = nI b) (hk : n = nI k) (h4 : a + k ≤ n0) (h5 : b + k ≤ n1) (hn0 : n0 < 2147483648) (hn1 : n1 < 2147483648)
    (hframes : 1 ≤ R.frames) (hlocals : (rest.map fun v => v.category).sum + (nativeFrameWords "java/lang/System" "arraycopy" 5 + 11) ≤ R.locals) (hu : ∀ j, va_up C h1 (.inl (Y 0, n1, .inl (va_cpy f g a b k))) j = C1 j) (hdg : decode cc pc = .ok (.invokestatic index, 3))
    (kk : ∀ (H1 : Heap) (locs1 : List Loc), wP D ad N C1 H1 → va_S (wA ad N) s.heap H1 locs1 → W p l e R s m args below meth c H1 locs1 cells slots Q (F0 m (pc + 3) ls rest)) : W p l e R s m args below meth c H locs cells slots Q (F0 m pc ls (.int n :: .int dp :: .ref (ad h1) :: .int sp :: .ref (ad h0) :: rest)) := by
  subst ha; subst hb; subst hk
  have ca : (nI a).toNatClampNeg = a := nI_clamp (by omega)
  have cb : (nI b).toNatClampNeg = b := nI_clamp (by omega)
  have ck : (nI k).toNatClampNeg = k := nI_clamp (by omega)
  refine va_copyi (ty := .int) F.1 F.2.1 (F.2.2.1.trans hsz.symm) F.2.2.2.1 (F.2.2.2.2.1 _ hlink) (F.2.2.2.2.1 _ MW_copy_native) (F.2.2.2.2.1 _ MW_copy_static) (F.2.2.2.2.1 _ MW_system_init) F.2.2.2.2.2.1 hP (wD hI) hS h0 h1 0 0 (wld_at hh0 hC0) (wld_at hh1 hC1) rfl rfl rfl (nI_pos (by omega)) (nI_pos (by omega)) (nI_pos (by omega)) (by rw [ca, ck]; exact h4) (by rw [cb, ck]; exact h5) (fun _ _ => rfl) hframes hlocals hdg (fun H1 locs1 hP1 _ hS1 => ?_)
  rw [ca, cb, ck, wld_set hu] at hP1
  exact kk H1 locs1 hP1 hS1
/-- a call of an int method, or of a boolean one -/
theorem w_calli (F : wFix p s m c args cc own nL D Y ad N) (hP : wP D ad N C H) (hS : va_S (wA ad N) s.heap H locs) {y : MethodName} {bytes : ByteArray} {maxL : Nat} {ret : Option FieldType} {rm : Room} {as : List Value} {h : Nat} {post : Int32 → (Nat → va_E) → Prop} (hM : Met l y (wm y bytes maxL ret) rm (wPc D Y ad N (.ref (ad h) :: as) C) (wQi D ad N post) 0 0 (wA ad N)) {index n : Nat} {Cn : String} (cw : CallW R s args own Cn index y bytes maxL ret (wm y bytes maxL ret) rm 0 0 n) (hh : h < N) {ci : Nat} {fs : List Value} {T : u_T} {Nf : Nat} (hC : C h = .inr (ci, fs)) (hc : vwCl[ci]? = some (Cn, T, Nf)) (hn : as.length = n) (hsz : ls.size = nL) {st : List Value} (hst : st = as.reverse ++ .ref (ad h) :: rest) (hW : (rest.map fun v => v.category).sum ≤ 8) (hdg : decode cc pc = .ok (.invokevirtual index, 3)) (hcs : cells ≤ R.cells ∧ slots ≤ R.slots)
    (kk : ∀ (r : Int32) (C' : Nat → va_E) (H1 : Heap) (locs1 : List Loc), post r C' → wP D ad N C' H1 → va_S (wA ad N) s.heap H1 locs1 → W p l e R s m args below meth c H1 locs1 cells slots Q (F0 m (pc + 3) ls (.int r :: rest))) : W p l e R s m args below meth c H locs cells slots Q (F0 m pc ls st) :=
  va_calli (va_runV (As := as) (rest := rest) ⟨F.1, F.2.1, F.2.2.1, F.2.2.2.1, F.2.2.2.2.1⟩ hM cw ⟨wPc_blind, va_recv F.2.2.2.2.2.1 hP (q0 := h) hc (wld_at hh hC), fun U hU hW => ⟨rfl, by rw [hU]; exact hP, va_K.moved hW.alike F.2.2.2.2.2.1, wEnv_at F hS hU hW⟩⟩ rfl hn hsz hst (lv_room hW) hdg hcs) hS (fun q _ h => h) (fun q h => h) (fun r u t H1 locs1 ht hvm hw hB _ _ hS1 => kk r u H1 locs1 hw (by rw [← ht]; exact hB) hS1)
theorem w_callv (F : wFix p s m c args cc own nL D Y ad N) (hP : wP D ad N C H) (hS : va_S (wA ad N) s.heap H locs) {y : MethodName} {bytes : ByteArray} {maxL : Nat} {ret : Option FieldType} {rm : Room} {as : List Value} {h : Nat} {post : (Nat → va_E) → Prop} (hM : Met l y (wm y bytes maxL ret) rm (wPc D Y ad N (.ref (ad h) :: as) C) (wQv D ad N post) 0 0 (wA ad N)) {index n : Nat} {Cn : String} (cw : CallW R s args own Cn index y bytes maxL ret (wm y bytes maxL ret) rm 0 0 n) (hh : h < N) {ci : Nat} {fs : List Value} {T : u_T} {Nf : Nat} (hC : C h = .inr (ci, fs)) (hc : vwCl[ci]? = some (Cn, T, Nf)) (hn : as.length = n) (hsz : ls.size = nL) {st : List Value} (hst : st = as.reverse ++ .ref (ad h) :: rest) (hW : (rest.map fun v => v.category).sum ≤ 8) (hdg : decode cc pc = .ok (.invokevirtual index, 3)) (hcs : cells ≤ R.cells ∧ slots ≤ R.slots)
    (kk : ∀ (C' : Nat → va_E) (H1 : Heap) (locs1 : List Loc), post C' → wP D ad N C' H1 → va_S (wA ad N) s.heap H1 locs1 → W p l e R s m args below meth c H1 locs1 cells slots Q (F0 m (pc + 3) ls rest)) : W p l e R s m args below meth c H locs cells slots Q (F0 m pc ls st) :=
  va_callv (va_runV (As := as) (rest := rest) ⟨F.1, F.2.1, F.2.2.1, F.2.2.2.1, F.2.2.2.2.1⟩ hM cw ⟨wPc_blind, va_recv F.2.2.2.2.2.1 hP (q0 := h) hc (wld_at hh hC), fun U hU hW => ⟨rfl, by rw [hU]; exact hP, va_K.moved hW.alike F.2.2.2.2.2.1, wEnv_at F hS hU hW⟩⟩ rfl hn hsz hst (lv_room hW) hdg hcs) hS (fun q _ h => h) (fun q h => h) (fun u t H1 locs1 ht hvm hw hB _ _ hS1 => kk u H1 locs1 hw (by rw [← ht]; exact hB) hS1)
/-- a call of a static method -/
theorem w_calls (F : wFix p s m c args cc own nL D Y ad N) (hP : wP D ad N C H) (hS : va_S (wA ad N) s.heap H locs) {y : MethodName} {bytes : ByteArray} {maxL : Nat} {ret : Option FieldType} {rm : Room} {as : List Value} {post : Int32 → (Nat → va_E) → Prop} (hM : Met l y (wm y bytes maxL ret) rm (wPc D Y ad N as C) (wQi D ad N post) 0 0 (wA ad N)) {index n : Nat} (cw : CallB R s args own index y bytes maxL ret (wm y bytes maxL ret) rm 0 0 n ∧ (Cond.static y).before args s = true) (hn : as.length = n) (hsz : ls.size = nL) {st : List Value} (hst : st = as.reverse ++ rest) (hW : (rest.map fun v => v.category).sum ≤ 8) (hdg : decode cc pc = .ok (.invokestatic index, 3)) (hcs : cells ≤ R.cells ∧ slots ≤ R.slots)
    (kk : ∀ (r : Int32) (C' : Nat → va_E) (H1 : Heap) (locs1 : List Loc), post r C' → wP D ad N C' H1 → va_S (wA ad N) s.heap H1 locs1 → W p l e R s m args below meth c H1 locs1 cells slots Q (F0 m (pc + 3) ls (.int r :: rest))) : W p l e R s m args below meth c H locs cells slots Q (F0 m pc ls st) :=
  va_calli (va_runS (As := as) (rest := rest) ⟨F.1, F.2.1, F.2.2.1, F.2.2.2.1, F.2.2.2.2.1⟩ hM cw ⟨wPc_blind, fun U hU hW => ⟨rfl, by rw [hU]; exact hP, va_K.moved hW.alike F.2.2.2.2.2.1, wEnv_at F hS hU hW⟩⟩ rfl hn hsz hst (lv_room hW) hdg hcs) hS (fun q _ h => h) (fun q h => h) (fun r u t H1 locs1 ht hvm hw hB _ _ hS1 => kk r u H1 locs1 hw (by rw [← ht]; exact hB) hS1)
/-- ends -/
theorem w_iret (F : wFix p s m c args cc own nL D Y ad N) (hr : meth.sig.returnType = some .int) (hlocks : meth.locks = false) (hP : wP D ad N C H) (hS : va_S (wA ad N) s.heap H locs) {post : Int32 → (Nat → va_E) → Prop} {v : Int32} (hdg : decode cc pc = .ok (.ireturn, 1)) (hq : post v C) : W p l e R s m args below meth c H locs cells slots (MQ below (wQi D ad N post) args s cells slots (wA ad N)) (F0 m pc ls [.int v]) :=
  W.iret F.1 F.2.1 hr (fun t ht _ => ⟨⟨v, C, rfl, hq, by show wP D ad N C t.heap; rw [ht]; exact hP⟩, hS.F ht⟩) hS.2.2 hdg hlocks
theorem w_zret (F : wFix p s m c args cc own nL D Y ad N) (hr : meth.sig.returnType = some .boolean) (hlocks : meth.locks = false) (hP : wP D ad N C H) (hS : va_S (wA ad N) s.heap H locs) {post : Int32 → (Nat → va_E) → Prop} {v : Int32} (hn : v = 0 ∨ v = 1) (hdg : decode cc pc = .ok (.ireturn, 1)) (hq : post v C) : W p l e R s m args below meth c H locs cells slots (MQ below (wQi D ad N post) args s cells slots (wA ad N)) (F0 m pc ls [.int v]) :=
  W.zret (ty := .boolean) F.1 F.2.1 hr (by rcases hn with rfl | rfl <;> rfl) (fun t ht _ => ⟨⟨v, C, rfl, hq, by show wP D ad N C t.heap; rw [ht]; exact hP⟩, hS.F ht⟩) hS.2.2 hdg hlocks
theorem w_vret (F : wFix p s m c args cc own nL D Y ad N) (hr : meth.sig.returnType = none) (hlocks : meth.locks = false) (hP : wP D ad N C H) (hS : va_S (wA ad N) s.heap H locs) {post : (Nat → va_E) → Prop} (hdg : decode cc pc = .ok (.return_, 1)) (hq : post C) : W p l e R s m args below meth c H locs cells slots (MQ below (wQv D ad N post) args s cells slots (wA ad N)) (F0 m pc ls []) :=
  W.vret F.1 F.2.1 hr (fun t ht _ => ⟨⟨C, rfl, hq, by show wP D ad N C t.heap; rw [ht]; exact hP⟩, hS.F ht⟩) hS.2.2 hdg hlocks
/-- a loop: Inv i ls C at its head, where i falls -/
theorem w_loop (Inv : Nat → Array Slot → (Nat → va_E) → Prop)
    (step : ∀ i, (∀ j, j < i → ∀ H locs ls C, Inv j ls C → wP D ad N C H → va_S (wA ad N) s.heap H locs → W p l e R s m args below meth c H locs cells slots Q (F0 m pc ls [])) → ∀ H locs ls C, Inv i ls C → wP D ad N C H → va_S (wA ad N) s.heap H locs → W p l e R s m args below meth c H locs cells slots Q (F0 m pc ls []))
    (i : Nat) {H : Heap} {locs : List Loc} {ls : Array Slot} {C : Nat → va_E} (h1 : Inv i ls C) (h2 : wP D ad N C H) (h3 : va_S (wA ad N) s.heap H locs) : W p l e R s m args below meth c H locs cells slots Q (F0 m pc ls []) := by
  induction i using Nat.strongRecOn generalizing H locs ls C with
  | ind i ih => exact step i (fun j hj H locs ls C a b d => ih j hj a b d) H locs ls C h1 h2 h3
/-- a value that two ways agree on -/
theorem w_cut {J : Nat} {ls1 : Array Slot} {rest1 : List Value} (v : Int32) {g : JFrame}
    (h1 : (∀ x : Int32, x = v → W p l e R s m args below meth c H locs cells slots Q (F0 m J ls1 (.int x :: rest1))) → W p l e R s m args below meth c H locs cells slots Q g)
    (h2 : ∀ x : Int32, x = v → W p l e R s m args below meth c H locs cells slots Q (F0 m J ls1 (.int x :: rest1))) : W p l e R s m args below meth c H locs cells slots Q g := h1 h2
end CORE
theorem up_self {C : Nat → va_E} {h : Nat} {e e' : va_E} : ∀ j, va_up (va_up C h e) h e' j = va_up C h e' j := fun j => by by_cases q : j = h <;> simp [va_up, q]
theorem up_rfl {C : Nat → va_E} : ∀ j, C j = C j := fun _ => rfl
end
section
/-! a row for each field that the programs read or write, and the methods' names -/
section FR
variable {p : Program} {l : Launch} {e : Env} {R : Room} {s : State} {m : MethodId} {args : Array Value} {below : List Frame} {meth : Method} {c : Code} {H : Heap} {locs : List Loc} {cells slots : Nat} {Q : State → Prop}
variable {cc : ByteArray} {pc : Nat} {ls : Array Slot} {rest : List Value} {D : va_G} {Y : Nat → ClassId} {ad : Nat → Nat} {N : Nat} {C C1 : Nat → va_E} {nL : Nat}
theorem gf_X0_11 (F : wFix p s m c args cc RX0 nL D Y ad N) (hP : wP D ad N C H) {h : Nat} {fs : List Value} (hh : h < N) (hC : C h = .inr (0, fs)) {v : Value} (hv : fs[0]? = some v) (hdg : decode cc pc = .ok (.getfield 11, 3)) (kk : W p l e R s m args below meth c H locs cells slots Q (F0 m (pc + 3) ls (v :: rest))) : W p l e R s m args below meth c H locs cells slots Q (F0 m pc ls (.ref (ad h) :: rest)) :=
  w_get F hP hh hC rfl Wi_wsX00 0 (by decide) mw_90 hv hdg kk
theorem gf_X0_16 (F : wFix p s m c args cc RX0 nL D Y ad N) (hP : wP D ad N C H) {h : Nat} {fs : List Value} (hh : h < N) (hC : C h = .inr (0, fs)) {v : Value} (hv : fs[1]? = some v) (hdg : decode cc pc = .ok (.getfield 16, 3)) (kk : W p l e R s m args below meth c H locs cells slots Q (F0 m (pc + 3) ls (v :: rest))) : W p l e R s m args below meth c H locs cells slots Q (F0 m pc ls (.ref (ad h) :: rest)) :=
  w_get F hP hh hC rfl Wi_wsX00 1 (by decide) mw_91 hv hdg kk
theorem pf_X0_16 (F : wFix p s m c args cc RX0 nL D Y ad N) (hI : wI ad N) (hP : wP D ad N C H) (hS : va_S (wA ad N) s.heap H locs) {h : Nat} {fs : List Value} (hh : h < N) (hC : C h = .inr (0, fs)) {x : Int32} (hl : 1 < fs.length) (hu : ∀ j, va_up C h (.inr (0, fs.set 1 (.int x))) j = C1 j) (hdg : decode cc pc = .ok (.putfield 16, 3)) (kk : ∀ (H1 : Heap) (locs1 : List Loc), wP D ad N C1 H1 → va_S (wA ad N) s.heap H1 locs1 → W p l e R s m args below meth c H1 locs1 cells slots Q (F0 m (pc + 3) ls rest)) : W p l e R s m args below meth c H locs cells slots Q (F0 m pc ls (.int x :: .ref (ad h) :: rest)) :=
  w_put F hI hP hS hh hC rfl Wi_wsX00 tyX0 tyX0_ok nmX0 1 (by decide) mw_91 rfl rfl rfl hl hu hdg kk
theorem gf_X0_20 (F : wFix p s m c args cc RX0 nL D Y ad N) (hP : wP D ad N C H) {h : Nat} {fs : List Value} (hh : h < N) (hC : C h = .inr (0, fs)) {v : Value} (hv : fs[2]? = some v) (hdg : decode cc pc = .ok (.getfield 20, 3)) (kk : W p l e R s m args below meth c H locs cells slots Q (F0 m (pc + 3) ls (v :: rest))) : W p l e R s m args below meth c H locs cells slots Q (F0 m pc ls (.ref (ad h) :: rest)) :=
  w_get F hP hh hC rfl Wi_wsX00 2 (by decide) mw_92 hv hdg kk
theorem pf_X0_20 (F : wFix p s m c args cc RX0 nL D Y ad N) (hI : wI ad N) (hP : wP D ad N C H) (hS : va_S (wA ad N) s.heap H locs) {h : Nat} {fs : List Value} (hh : h < N) (hC : C h = .inr (0, fs)) {x : Int32} (hl : 2 < fs.length) (hu : ∀ j, va_up C h (.inr (0, fs.set 2 (.int x))) j = C1 j) (hdg : decode cc pc = .ok (.putfield 20, 3)) (kk : ∀ (H1 : Heap) (locs1 : List Loc), wP D ad N C1 H1 → va_S (wA ad N) s.heap H1 locs1 → W p l e R s m args below meth c H1 locs1 cells slots Q (F0 m (pc + 3) ls rest)) : W p l e R s m args below meth c H locs cells slots Q (F0 m pc ls (.int x :: .ref (ad h) :: rest)) :=
  w_put F hI hP hS hh hC rfl Wi_wsX00 tyX0 tyX0_ok nmX0 2 (by decide) mw_92 rfl rfl rfl hl hu hdg kk
theorem gf_X1_9 (F : wFix p s m c args cc RX1 nL D Y ad N) (hP : wP D ad N C H) {h : Nat} {fs : List Value} (hh : h < N) (hC : C h = .inr (1, fs)) {v : Value} (hv : fs[0]? = some v) (hdg : decode cc pc = .ok (.getfield 9, 3)) (kk : W p l e R s m args below meth c H locs cells slots Q (F0 m (pc + 3) ls (v :: rest))) : W p l e R s m args below meth c H locs cells slots Q (F0 m pc ls (.ref (ad h) :: rest)) :=
  w_get F hP hh hC rfl Wi_wsX10 0 (by decide) mw_77 hv hdg kk
theorem pf_X1_9 (F : wFix p s m c args cc RX1 nL D Y ad N) (hI : wI ad N) (hP : wP D ad N C H) (hS : va_S (wA ad N) s.heap H locs) {h : Nat} {fs : List Value} (hh : h < N) (hC : C h = .inr (1, fs)) {x : Int32} (hz : x = 0 ∨ x = 1) (hl : 0 < fs.length) (hu : ∀ j, va_up C h (.inr (1, fs.set 0 (.int x))) j = C1 j) (hdg : decode cc pc = .ok (.putfield 9, 3)) (kk : ∀ (H1 : Heap) (locs1 : List Loc), wP D ad N C1 H1 → va_S (wA ad N) s.heap H1 locs1 → W p l e R s m args below meth c H1 locs1 cells slots Q (F0 m (pc + 3) ls rest)) : W p l e R s m args below meth c H locs cells slots Q (F0 m pc ls (.int x :: .ref (ad h) :: rest)) :=
  w_put F hI hP hS hh hC rfl Wi_wsX10 tyX1 tyX1_ok nmX1 0 (by decide) mw_77 rfl (by rcases hz with rfl | rfl <;> rfl) (by rcases hz with rfl | rfl <;> rfl) hl hu hdg kk
theorem gf_X1_15 (F : wFix p s m c args cc RX1 nL D Y ad N) (hP : wP D ad N C H) {h : Nat} {fs : List Value} (hh : h < N) (hC : C h = .inr (1, fs)) {v : Value} (hv : fs[1]? = some v) (hdg : decode cc pc = .ok (.getfield 15, 3)) (kk : W p l e R s m args below meth c H locs cells slots Q (F0 m (pc + 3) ls (v :: rest))) : W p l e R s m args below meth c H locs cells slots Q (F0 m pc ls (.ref (ad h) :: rest)) :=
  w_get F hP hh hC rfl Wi_wsX10 1 (by decide) mw_151 hv hdg kk
theorem pf_X1_15 (F : wFix p s m c args cc RX1 nL D Y ad N) (hI : wI ad N) (hP : wP D ad N C H) (hS : va_S (wA ad N) s.heap H locs) {h : Nat} {fs : List Value} (hh : h < N) (hC : C h = .inr (1, fs)) {x : Int32} (hl : 1 < fs.length) (hu : ∀ j, va_up C h (.inr (1, fs.set 1 (.int x))) j = C1 j) (hdg : decode cc pc = .ok (.putfield 15, 3)) (kk : ∀ (H1 : Heap) (locs1 : List Loc), wP D ad N C1 H1 → va_S (wA ad N) s.heap H1 locs1 → W p l e R s m args below meth c H1 locs1 cells slots Q (F0 m (pc + 3) ls rest)) : W p l e R s m args below meth c H locs cells slots Q (F0 m pc ls (.int x :: .ref (ad h) :: rest)) :=
  w_put F hI hP hS hh hC rfl Wi_wsX10 tyX1 tyX1_ok nmX1 1 (by decide) mw_151 rfl rfl rfl hl hu hdg kk
theorem gf_X1_19 (F : wFix p s m c args cc RX1 nL D Y ad N) (hP : wP D ad N C H) {h : Nat} {fs : List Value} (hh : h < N) (hC : C h = .inr (1, fs)) {v : Value} (hv : fs[2]? = some v) (hdg : decode cc pc = .ok (.getfield 19, 3)) (kk : W p l e R s m args below meth c H locs cells slots Q (F0 m (pc + 3) ls (v :: rest))) : W p l e R s m args below meth c H locs cells slots Q (F0 m pc ls (.ref (ad h) :: rest)) :=
  w_get F hP hh hC rfl Wi_wsX10 2 (by decide) mw_152 hv hdg kk
theorem pf_X1_19 (F : wFix p s m c args cc RX1 nL D Y ad N) (hI : wI ad N) (hP : wP D ad N C H) (hS : va_S (wA ad N) s.heap H locs) {h : Nat} {fs : List Value} (hh : h < N) (hC : C h = .inr (1, fs)) {x : Int32} (hl : 2 < fs.length) (hu : ∀ j, va_up C h (.inr (1, fs.set 2 (.int x))) j = C1 j) (hdg : decode cc pc = .ok (.putfield 19, 3)) (kk : ∀ (H1 : Heap) (locs1 : List Loc), wP D ad N C1 H1 → va_S (wA ad N) s.heap H1 locs1 → W p l e R s m args below meth c H1 locs1 cells slots Q (F0 m (pc + 3) ls rest)) : W p l e R s m args below meth c H locs cells slots Q (F0 m pc ls (.int x :: .ref (ad h) :: rest)) :=
  w_put F hI hP hS hh hC rfl Wi_wsX10 tyX1 tyX1_ok nmX1 2 (by decide) mw_152 rfl rfl rfl hl hu hdg kk
theorem gf_X1_22 (F : wFix p s m c args cc RX1 nL D Y ad N) (hP : wP D ad N C H) {h : Nat} {fs : List Value} (hh : h < N) (hC : C h = .inr (1, fs)) {v : Value} (hv : fs[3]? = some v) (hdg : decode cc pc = .ok (.getfield 22, 3)) (kk : W p l e R s m args below meth c H locs cells slots Q (F0 m (pc + 3) ls (v :: rest))) : W p l e R s m args below meth c H locs cells slots Q (F0 m pc ls (.ref (ad h) :: rest)) :=
  w_get F hP hh hC rfl Wi_wsX10 3 (by decide) mw_153 hv hdg kk
theorem pf_X1_22 (F : wFix p s m c args cc RX1 nL D Y ad N) (hI : wI ad N) (hP : wP D ad N C H) (hS : va_S (wA ad N) s.heap H locs) {h : Nat} {fs : List Value} (hh : h < N) (hC : C h = .inr (1, fs)) {x : Int32} (hl : 3 < fs.length) (hu : ∀ j, va_up C h (.inr (1, fs.set 3 (.int x))) j = C1 j) (hdg : decode cc pc = .ok (.putfield 22, 3)) (kk : ∀ (H1 : Heap) (locs1 : List Loc), wP D ad N C1 H1 → va_S (wA ad N) s.heap H1 locs1 → W p l e R s m args below meth c H1 locs1 cells slots Q (F0 m (pc + 3) ls rest)) : W p l e R s m args below meth c H locs cells slots Q (F0 m pc ls (.int x :: .ref (ad h) :: rest)) :=
  w_put F hI hP hS hh hC rfl Wi_wsX10 tyX1 tyX1_ok nmX1 3 (by decide) mw_153 rfl rfl rfl hl hu hdg kk
theorem gf_X1_25 (F : wFix p s m c args cc RX1 nL D Y ad N) (hP : wP D ad N C H) {h : Nat} {fs : List Value} (hh : h < N) (hC : C h = .inr (1, fs)) {v : Value} (hv : fs[4]? = some v) (hdg : decode cc pc = .ok (.getfield 25, 3)) (kk : W p l e R s m args below meth c H locs cells slots Q (F0 m (pc + 3) ls (v :: rest))) : W p l e R s m args below meth c H locs cells slots Q (F0 m pc ls (.ref (ad h) :: rest)) :=
  w_get F hP hh hC rfl Wi_wsX10 4 (by decide) mw_154 hv hdg kk
theorem pf_X1_25 (F : wFix p s m c args cc RX1 nL D Y ad N) (hI : wI ad N) (hP : wP D ad N C H) (hS : va_S (wA ad N) s.heap H locs) {h : Nat} {fs : List Value} (hh : h < N) (hC : C h = .inr (1, fs)) {x : Int32} (hl : 4 < fs.length) (hu : ∀ j, va_up C h (.inr (1, fs.set 4 (.int x))) j = C1 j) (hdg : decode cc pc = .ok (.putfield 25, 3)) (kk : ∀ (H1 : Heap) (locs1 : List Loc), wP D ad N C1 H1 → va_S (wA ad N) s.heap H1 locs1 → W p l e R s m args below meth c H1 locs1 cells slots Q (F0 m (pc + 3) ls rest)) : W p l e R s m args below meth c H locs cells slots Q (F0 m pc ls (.int x :: .ref (ad h) :: rest)) :=
  w_put F hI hP hS hh hC rfl Wi_wsX10 tyX1 tyX1_ok nmX1 4 (by decide) mw_154 rfl rfl rfl hl hu hdg kk
theorem gf_X1_28 (F : wFix p s m c args cc RX1 nL D Y ad N) (hP : wP D ad N C H) {h : Nat} {fs : List Value} (hh : h < N) (hC : C h = .inr (1, fs)) {v : Value} (hv : fs[5]? = some v) (hdg : decode cc pc = .ok (.getfield 28, 3)) (kk : W p l e R s m args below meth c H locs cells slots Q (F0 m (pc + 3) ls (v :: rest))) : W p l e R s m args below meth c H locs cells slots Q (F0 m pc ls (.ref (ad h) :: rest)) :=
  w_get F hP hh hC rfl Wi_wsX10 5 (by decide) mw_155 hv hdg kk
theorem pf_X1_28 (F : wFix p s m c args cc RX1 nL D Y ad N) (hI : wI ad N) (hP : wP D ad N C H) (hS : va_S (wA ad N) s.heap H locs) {h : Nat} {fs : List Value} (hh : h < N) (hC : C h = .inr (1, fs)) {x : Int32} (hl : 5 < fs.length) (hu : ∀ j, va_up C h (.inr (1, fs.set 5 (.int x))) j = C1 j) (hdg : decode cc pc = .ok (.putfield 28, 3)) (kk : ∀ (H1 : Heap) (locs1 : List Loc), wP D ad N C1 H1 → va_S (wA ad N) s.heap H1 locs1 → W p l e R s m args below meth c H1 locs1 cells slots Q (F0 m (pc + 3) ls rest)) : W p l e R s m args below meth c H locs cells slots Q (F0 m pc ls (.int x :: .ref (ad h) :: rest)) :=
  w_put F hI hP hS hh hC rfl Wi_wsX10 tyX1 tyX1_ok nmX1 5 (by decide) mw_155 rfl rfl rfl hl hu hdg kk
theorem gf_X1_31 (F : wFix p s m c args cc RX1 nL D Y ad N) (hP : wP D ad N C H) {h : Nat} {fs : List Value} (hh : h < N) (hC : C h = .inr (1, fs)) {v : Value} (hv : fs[6]? = some v) (hdg : decode cc pc = .ok (.getfield 31, 3)) (kk : W p l e R s m args below meth c H locs cells slots Q (F0 m (pc + 3) ls (v :: rest))) : W p l e R s m args below meth c H locs cells slots Q (F0 m pc ls (.ref (ad h) :: rest)) :=
  w_get F hP hh hC rfl Wi_wsX10 6 (by decide) mw_156 hv hdg kk
theorem pf_X1_31 (F : wFix p s m c args cc RX1 nL D Y ad N) (hI : wI ad N) (hP : wP D ad N C H) (hS : va_S (wA ad N) s.heap H locs) {h : Nat} {fs : List Value} (hh : h < N) (hC : C h = .inr (1, fs)) {x : Int32} (hl : 6 < fs.length) (hu : ∀ j, va_up C h (.inr (1, fs.set 6 (.int x))) j = C1 j) (hdg : decode cc pc = .ok (.putfield 31, 3)) (kk : ∀ (H1 : Heap) (locs1 : List Loc), wP D ad N C1 H1 → va_S (wA ad N) s.heap H1 locs1 → W p l e R s m args below meth c H1 locs1 cells slots Q (F0 m (pc + 3) ls rest)) : W p l e R s m args below meth c H locs cells slots Q (F0 m pc ls (.int x :: .ref (ad h) :: rest)) :=
  w_put F hI hP hS hh hC rfl Wi_wsX10 tyX1 tyX1_ok nmX1 6 (by decide) mw_156 rfl rfl rfl hl hu hdg kk
theorem gf_X1_34 (F : wFix p s m c args cc RX1 nL D Y ad N) (hP : wP D ad N C H) {h : Nat} {fs : List Value} (hh : h < N) (hC : C h = .inr (1, fs)) {v : Value} (hv : fs[7]? = some v) (hdg : decode cc pc = .ok (.getfield 34, 3)) (kk : W p l e R s m args below meth c H locs cells slots Q (F0 m (pc + 3) ls (v :: rest))) : W p l e R s m args below meth c H locs cells slots Q (F0 m pc ls (.ref (ad h) :: rest)) :=
  w_get F hP hh hC rfl Wi_wsX10 7 (by decide) mw_157 hv hdg kk
theorem pf_X1_34 (F : wFix p s m c args cc RX1 nL D Y ad N) (hI : wI ad N) (hP : wP D ad N C H) (hS : va_S (wA ad N) s.heap H locs) {h : Nat} {fs : List Value} (hh : h < N) (hC : C h = .inr (1, fs)) {x : Int32} (hl : 7 < fs.length) (hu : ∀ j, va_up C h (.inr (1, fs.set 7 (.int x))) j = C1 j) (hdg : decode cc pc = .ok (.putfield 34, 3)) (kk : ∀ (H1 : Heap) (locs1 : List Loc), wP D ad N C1 H1 → va_S (wA ad N) s.heap H1 locs1 → W p l e R s m args below meth c H1 locs1 cells slots Q (F0 m (pc + 3) ls rest)) : W p l e R s m args below meth c H locs cells slots Q (F0 m pc ls (.int x :: .ref (ad h) :: rest)) :=
  w_put F hI hP hS hh hC rfl Wi_wsX10 tyX1 tyX1_ok nmX1 7 (by decide) mw_157 rfl rfl rfl hl hu hdg kk
theorem gf_X1_37 (F : wFix p s m c args cc RX1 nL D Y ad N) (hP : wP D ad N C H) {h : Nat} {fs : List Value} (hh : h < N) (hC : C h = .inr (1, fs)) {v : Value} (hv : fs[8]? = some v) (hdg : decode cc pc = .ok (.getfield 37, 3)) (kk : W p l e R s m args below meth c H locs cells slots Q (F0 m (pc + 3) ls (v :: rest))) : W p l e R s m args below meth c H locs cells slots Q (F0 m pc ls (.ref (ad h) :: rest)) :=
  w_get F hP hh hC rfl Wi_wsX10 8 (by decide) mw_158 hv hdg kk
theorem pf_X1_37 (F : wFix p s m c args cc RX1 nL D Y ad N) (hI : wI ad N) (hP : wP D ad N C H) (hS : va_S (wA ad N) s.heap H locs) {h : Nat} {fs : List Value} (hh : h < N) (hC : C h = .inr (1, fs)) {x : Int32} (hl : 8 < fs.length) (hu : ∀ j, va_up C h (.inr (1, fs.set 8 (.int x))) j = C1 j) (hdg : decode cc pc = .ok (.putfield 37, 3)) (kk : ∀ (H1 : Heap) (locs1 : List Loc), wP D ad N C1 H1 → va_S (wA ad N) s.heap H1 locs1 → W p l e R s m args below meth c H1 locs1 cells slots Q (F0 m (pc + 3) ls rest)) : W p l e R s m args below meth c H locs cells slots Q (F0 m pc ls (.int x :: .ref (ad h) :: rest)) :=
  w_put F hI hP hS hh hC rfl Wi_wsX10 tyX1 tyX1_ok nmX1 8 (by decide) mw_158 rfl rfl rfl hl hu hdg kk
theorem gf_X1_40 (F : wFix p s m c args cc RX1 nL D Y ad N) (hP : wP D ad N C H) {h : Nat} {fs : List Value} (hh : h < N) (hC : C h = .inr (1, fs)) {v : Value} (hv : fs[9]? = some v) (hdg : decode cc pc = .ok (.getfield 40, 3)) (kk : W p l e R s m args below meth c H locs cells slots Q (F0 m (pc + 3) ls (v :: rest))) : W p l e R s m args below meth c H locs cells slots Q (F0 m pc ls (.ref (ad h) :: rest)) :=
  w_get F hP hh hC rfl Wi_wsX10 9 (by decide) mw_159 hv hdg kk
theorem pf_X1_40 (F : wFix p s m c args cc RX1 nL D Y ad N) (hI : wI ad N) (hP : wP D ad N C H) (hS : va_S (wA ad N) s.heap H locs) {h : Nat} {fs : List Value} (hh : h < N) (hC : C h = .inr (1, fs)) {x : Int32} (hl : 9 < fs.length) (hu : ∀ j, va_up C h (.inr (1, fs.set 9 (.int x))) j = C1 j) (hdg : decode cc pc = .ok (.putfield 40, 3)) (kk : ∀ (H1 : Heap) (locs1 : List Loc), wP D ad N C1 H1 → va_S (wA ad N) s.heap H1 locs1 → W p l e R s m args below meth c H1 locs1 cells slots Q (F0 m (pc + 3) ls rest)) : W p l e R s m args below meth c H locs cells slots Q (F0 m pc ls (.int x :: .ref (ad h) :: rest)) :=
  w_put F hI hP hS hh hC rfl Wi_wsX10 tyX1 tyX1_ok nmX1 9 (by decide) mw_159 rfl rfl rfl hl hu hdg kk
theorem gf_X2_11 (F : wFix p s m c args cc RX2 nL D Y ad N) (hP : wP D ad N C H) {h : Nat} {fs : List Value} (hh : h < N) (hC : C h = .inr (2, fs)) {v : Value} (hv : fs[0]? = some v) (hdg : decode cc pc = .ok (.getfield 11, 3)) (kk : W p l e R s m args below meth c H locs cells slots Q (F0 m (pc + 3) ls (v :: rest))) : W p l e R s m args below meth c H locs cells slots Q (F0 m pc ls (.ref (ad h) :: rest)) :=
  w_get F hP hh hC rfl Wi_wsX20 0 (by decide) mw_98 hv hdg kk
theorem gf_X2_15 (F : wFix p s m c args cc RX2 nL D Y ad N) (hP : wP D ad N C H) {h : Nat} {fs : List Value} (hh : h < N) (hC : C h = .inr (2, fs)) {v : Value} (hv : fs[1]? = some v) (hdg : decode cc pc = .ok (.getfield 15, 3)) (kk : W p l e R s m args below meth c H locs cells slots Q (F0 m (pc + 3) ls (v :: rest))) : W p l e R s m args below meth c H locs cells slots Q (F0 m pc ls (.ref (ad h) :: rest)) :=
  w_get F hP hh hC rfl Wi_wsX20 1 (by decide) mw_99 hv hdg kk
theorem pf_X2_15 (F : wFix p s m c args cc RX2 nL D Y ad N) (hI : wI ad N) (hP : wP D ad N C H) (hS : va_S (wA ad N) s.heap H locs) {h : Nat} {fs : List Value} (hh : h < N) (hC : C h = .inr (2, fs)) {x : Int32} (hl : 1 < fs.length) (hu : ∀ j, va_up C h (.inr (2, fs.set 1 (.int x))) j = C1 j) (hdg : decode cc pc = .ok (.putfield 15, 3)) (kk : ∀ (H1 : Heap) (locs1 : List Loc), wP D ad N C1 H1 → va_S (wA ad N) s.heap H1 locs1 → W p l e R s m args below meth c H1 locs1 cells slots Q (F0 m (pc + 3) ls rest)) : W p l e R s m args below meth c H locs cells slots Q (F0 m pc ls (.int x :: .ref (ad h) :: rest)) :=
  w_put F hI hP hS hh hC rfl Wi_wsX20 tyX2 tyX2_ok nmX2 1 (by decide) mw_99 rfl rfl rfl hl hu hdg kk
theorem gf_X2_19 (F : wFix p s m c args cc RX2 nL D Y ad N) (hP : wP D ad N C H) {h : Nat} {fs : List Value} (hh : h < N) (hC : C h = .inr (2, fs)) {v : Value} (hv : fs[2]? = some v) (hdg : decode cc pc = .ok (.getfield 19, 3)) (kk : W p l e R s m args below meth c H locs cells slots Q (F0 m (pc + 3) ls (v :: rest))) : W p l e R s m args below meth c H locs cells slots Q (F0 m pc ls (.ref (ad h) :: rest)) :=
  w_get F hP hh hC rfl Wi_wsX20 2 (by decide) mw_100 hv hdg kk
theorem pf_X2_19 (F : wFix p s m c args cc RX2 nL D Y ad N) (hI : wI ad N) (hP : wP D ad N C H) (hS : va_S (wA ad N) s.heap H locs) {h : Nat} {fs : List Value} (hh : h < N) (hC : C h = .inr (2, fs)) {x : Int32} (hl : 2 < fs.length) (hu : ∀ j, va_up C h (.inr (2, fs.set 2 (.int x))) j = C1 j) (hdg : decode cc pc = .ok (.putfield 19, 3)) (kk : ∀ (H1 : Heap) (locs1 : List Loc), wP D ad N C1 H1 → va_S (wA ad N) s.heap H1 locs1 → W p l e R s m args below meth c H1 locs1 cells slots Q (F0 m (pc + 3) ls rest)) : W p l e R s m args below meth c H locs cells slots Q (F0 m pc ls (.int x :: .ref (ad h) :: rest)) :=
  w_put F hI hP hS hh hC rfl Wi_wsX20 tyX2 tyX2_ok nmX2 2 (by decide) mw_100 rfl rfl rfl hl hu hdg kk
theorem gf_X2_42 (F : wFix p s m c args cc RX2 nL D Y ad N) (hP : wP D ad N C H) {h : Nat} {fs : List Value} (hh : h < N) (hC : C h = .inr (2, fs)) {v : Value} (hv : fs[3]? = some v) (hdg : decode cc pc = .ok (.getfield 42, 3)) (kk : W p l e R s m args below meth c H locs cells slots Q (F0 m (pc + 3) ls (v :: rest))) : W p l e R s m args below meth c H locs cells slots Q (F0 m pc ls (.ref (ad h) :: rest)) :=
  w_get F hP hh hC rfl Wi_wsX20 3 (by decide) mw_599 hv hdg kk
theorem pf_X2_42 (F : wFix p s m c args cc RX2 nL D Y ad N) (hI : wI ad N) (hP : wP D ad N C H) (hS : va_S (wA ad N) s.heap H locs) {h : Nat} {fs : List Value} (hh : h < N) (hC : C h = .inr (2, fs)) {x : Int32} (hl : 3 < fs.length) (hu : ∀ j, va_up C h (.inr (2, fs.set 3 (.int x))) j = C1 j) (hdg : decode cc pc = .ok (.putfield 42, 3)) (kk : ∀ (H1 : Heap) (locs1 : List Loc), wP D ad N C1 H1 → va_S (wA ad N) s.heap H1 locs1 → W p l e R s m args below meth c H1 locs1 cells slots Q (F0 m (pc + 3) ls rest)) : W p l e R s m args below meth c H locs cells slots Q (F0 m pc ls (.int x :: .ref (ad h) :: rest)) :=
  w_put F hI hP hS hh hC rfl Wi_wsX20 tyX2 tyX2_ok nmX2 3 (by decide) mw_599 rfl rfl rfl hl hu hdg kk
theorem gf_X2_45 (F : wFix p s m c args cc RX2 nL D Y ad N) (hP : wP D ad N C H) {h : Nat} {fs : List Value} (hh : h < N) (hC : C h = .inr (2, fs)) {v : Value} (hv : fs[4]? = some v) (hdg : decode cc pc = .ok (.getfield 45, 3)) (kk : W p l e R s m args below meth c H locs cells slots Q (F0 m (pc + 3) ls (v :: rest))) : W p l e R s m args below meth c H locs cells slots Q (F0 m pc ls (.ref (ad h) :: rest)) :=
  w_get F hP hh hC rfl Wi_wsX20 4 (by decide) mw_600 hv hdg kk
theorem pf_X2_45 (F : wFix p s m c args cc RX2 nL D Y ad N) (hI : wI ad N) (hP : wP D ad N C H) (hS : va_S (wA ad N) s.heap H locs) {h : Nat} {fs : List Value} (hh : h < N) (hC : C h = .inr (2, fs)) {x : Int32} (hl : 4 < fs.length) (hu : ∀ j, va_up C h (.inr (2, fs.set 4 (.int x))) j = C1 j) (hdg : decode cc pc = .ok (.putfield 45, 3)) (kk : ∀ (H1 : Heap) (locs1 : List Loc), wP D ad N C1 H1 → va_S (wA ad N) s.heap H1 locs1 → W p l e R s m args below meth c H1 locs1 cells slots Q (F0 m (pc + 3) ls rest)) : W p l e R s m args below meth c H locs cells slots Q (F0 m pc ls (.int x :: .ref (ad h) :: rest)) :=
  w_put F hI hP hS hh hC rfl Wi_wsX20 tyX2 tyX2_ok nmX2 4 (by decide) mw_600 rfl rfl rfl hl hu hdg kk
theorem gf_X3_11 (F : wFix p s m c args cc RX3 nL D Y ad N) (hP : wP D ad N C H) {h : Nat} {fs : List Value} (hh : h < N) (hC : C h = .inr (3, fs)) {v : Value} (hv : fs[0]? = some v) (hdg : decode cc pc = .ok (.getfield 11, 3)) (kk : W p l e R s m args below meth c H locs cells slots Q (F0 m (pc + 3) ls (v :: rest))) : W p l e R s m args below meth c H locs cells slots Q (F0 m pc ls (.ref (ad h) :: rest)) :=
  w_get F hP hh hC rfl Wi_wsX30 0 (by decide) mw_83 hv hdg kk
theorem gf_X3_14 (F : wFix p s m c args cc RX3 nL D Y ad N) (hP : wP D ad N C H) {h : Nat} {fs : List Value} (hh : h < N) (hC : C h = .inr (3, fs)) {v : Value} (hv : fs[1]? = some v) (hdg : decode cc pc = .ok (.getfield 14, 3)) (kk : W p l e R s m args below meth c H locs cells slots Q (F0 m (pc + 3) ls (v :: rest))) : W p l e R s m args below meth c H locs cells slots Q (F0 m pc ls (.ref (ad h) :: rest)) :=
  w_get F hP hh hC rfl Wi_wsX30 1 (by decide) mw_84 hv hdg kk
theorem pf_X3_14 (F : wFix p s m c args cc RX3 nL D Y ad N) (hI : wI ad N) (hP : wP D ad N C H) (hS : va_S (wA ad N) s.heap H locs) {h : Nat} {fs : List Value} (hh : h < N) (hC : C h = .inr (3, fs)) {x : Int32} (hl : 1 < fs.length) (hu : ∀ j, va_up C h (.inr (3, fs.set 1 (.int x))) j = C1 j) (hdg : decode cc pc = .ok (.putfield 14, 3)) (kk : ∀ (H1 : Heap) (locs1 : List Loc), wP D ad N C1 H1 → va_S (wA ad N) s.heap H1 locs1 → W p l e R s m args below meth c H1 locs1 cells slots Q (F0 m (pc + 3) ls rest)) : W p l e R s m args below meth c H locs cells slots Q (F0 m pc ls (.int x :: .ref (ad h) :: rest)) :=
  w_put F hI hP hS hh hC rfl Wi_wsX30 tyX3 tyX3_ok nmX3 1 (by decide) mw_84 rfl rfl rfl hl hu hdg kk
theorem gf_X3_28 (F : wFix p s m c args cc RX3 nL D Y ad N) (hP : wP D ad N C H) {h : Nat} {fs : List Value} (hh : h < N) (hC : C h = .inr (1, fs)) {v : Value} (hv : fs[1]? = some v) (hdg : decode cc pc = .ok (.getfield 28, 3)) (kk : W p l e R s m args below meth c H locs cells slots Q (F0 m (pc + 3) ls (v :: rest))) : W p l e R s m args below meth c H locs cells slots Q (F0 m pc ls (.ref (ad h) :: rest)) :=
  w_getN F hP hh hC rfl Wi_wsX10 1 (by decide) nw_X3_28 hv hdg kk
theorem pf_X3_28 (F : wFix p s m c args cc RX3 nL D Y ad N) (hI : wI ad N) (hP : wP D ad N C H) (hS : va_S (wA ad N) s.heap H locs) {h : Nat} {fs : List Value} (hh : h < N) (hC : C h = .inr (1, fs)) {x : Int32} (hl : 1 < fs.length) (hu : ∀ j, va_up C h (.inr (1, fs.set 1 (.int x))) j = C1 j) (hdg : decode cc pc = .ok (.putfield 28, 3)) (kk : ∀ (H1 : Heap) (locs1 : List Loc), wP D ad N C1 H1 → va_S (wA ad N) s.heap H1 locs1 → W p l e R s m args below meth c H1 locs1 cells slots Q (F0 m (pc + 3) ls rest)) : W p l e R s m args below meth c H locs cells slots Q (F0 m pc ls (.int x :: .ref (ad h) :: rest)) :=
  w_putN F hI hP hS hh hC rfl Wi_wsX10 tyX1 tyX1_ok nmX1 1 (by decide) nw_X3_28 rfl rfl rfl hl hu hdg kk
theorem gf_X3_33 (F : wFix p s m c args cc RX3 nL D Y ad N) (hP : wP D ad N C H) {h : Nat} {fs : List Value} (hh : h < N) (hC : C h = .inr (1, fs)) {v : Value} (hv : fs[6]? = some v) (hdg : decode cc pc = .ok (.getfield 33, 3)) (kk : W p l e R s m args below meth c H locs cells slots Q (F0 m (pc + 3) ls (v :: rest))) : W p l e R s m args below meth c H locs cells slots Q (F0 m pc ls (.ref (ad h) :: rest)) :=
  w_getN F hP hh hC rfl Wi_wsX10 6 (by decide) nw_X3_33 hv hdg kk
theorem pf_X3_33 (F : wFix p s m c args cc RX3 nL D Y ad N) (hI : wI ad N) (hP : wP D ad N C H) (hS : va_S (wA ad N) s.heap H locs) {h : Nat} {fs : List Value} (hh : h < N) (hC : C h = .inr (1, fs)) {x : Int32} (hl : 6 < fs.length) (hu : ∀ j, va_up C h (.inr (1, fs.set 6 (.int x))) j = C1 j) (hdg : decode cc pc = .ok (.putfield 33, 3)) (kk : ∀ (H1 : Heap) (locs1 : List Loc), wP D ad N C1 H1 → va_S (wA ad N) s.heap H1 locs1 → W p l e R s m args below meth c H1 locs1 cells slots Q (F0 m (pc + 3) ls rest)) : W p l e R s m args below meth c H locs cells slots Q (F0 m pc ls (.int x :: .ref (ad h) :: rest)) :=
  w_putN F hI hP hS hh hC rfl Wi_wsX10 tyX1 tyX1_ok nmX1 6 (by decide) nw_X3_33 rfl rfl rfl hl hu hdg kk
theorem gf_X3_36 (F : wFix p s m c args cc RX3 nL D Y ad N) (hP : wP D ad N C H) {h : Nat} {fs : List Value} (hh : h < N) (hC : C h = .inr (1, fs)) {v : Value} (hv : fs[5]? = some v) (hdg : decode cc pc = .ok (.getfield 36, 3)) (kk : W p l e R s m args below meth c H locs cells slots Q (F0 m (pc + 3) ls (v :: rest))) : W p l e R s m args below meth c H locs cells slots Q (F0 m pc ls (.ref (ad h) :: rest)) :=
  w_getN F hP hh hC rfl Wi_wsX10 5 (by decide) nw_X3_36 hv hdg kk
theorem pf_X3_36 (F : wFix p s m c args cc RX3 nL D Y ad N) (hI : wI ad N) (hP : wP D ad N C H) (hS : va_S (wA ad N) s.heap H locs) {h : Nat} {fs : List Value} (hh : h < N) (hC : C h = .inr (1, fs)) {x : Int32} (hl : 5 < fs.length) (hu : ∀ j, va_up C h (.inr (1, fs.set 5 (.int x))) j = C1 j) (hdg : decode cc pc = .ok (.putfield 36, 3)) (kk : ∀ (H1 : Heap) (locs1 : List Loc), wP D ad N C1 H1 → va_S (wA ad N) s.heap H1 locs1 → W p l e R s m args below meth c H1 locs1 cells slots Q (F0 m (pc + 3) ls rest)) : W p l e R s m args below meth c H locs cells slots Q (F0 m pc ls (.int x :: .ref (ad h) :: rest)) :=
  w_putN F hI hP hS hh hC rfl Wi_wsX10 tyX1 tyX1_ok nmX1 5 (by decide) nw_X3_36 rfl rfl rfl hl hu hdg kk
theorem gf_X3_39 (F : wFix p s m c args cc RX3 nL D Y ad N) (hP : wP D ad N C H) {h : Nat} {fs : List Value} (hh : h < N) (hC : C h = .inr (1, fs)) {v : Value} (hv : fs[7]? = some v) (hdg : decode cc pc = .ok (.getfield 39, 3)) (kk : W p l e R s m args below meth c H locs cells slots Q (F0 m (pc + 3) ls (v :: rest))) : W p l e R s m args below meth c H locs cells slots Q (F0 m pc ls (.ref (ad h) :: rest)) :=
  w_getN F hP hh hC rfl Wi_wsX10 7 (by decide) nw_X3_39 hv hdg kk
theorem pf_X3_39 (F : wFix p s m c args cc RX3 nL D Y ad N) (hI : wI ad N) (hP : wP D ad N C H) (hS : va_S (wA ad N) s.heap H locs) {h : Nat} {fs : List Value} (hh : h < N) (hC : C h = .inr (1, fs)) {x : Int32} (hl : 7 < fs.length) (hu : ∀ j, va_up C h (.inr (1, fs.set 7 (.int x))) j = C1 j) (hdg : decode cc pc = .ok (.putfield 39, 3)) (kk : ∀ (H1 : Heap) (locs1 : List Loc), wP D ad N C1 H1 → va_S (wA ad N) s.heap H1 locs1 → W p l e R s m args below meth c H1 locs1 cells slots Q (F0 m (pc + 3) ls rest)) : W p l e R s m args below meth c H locs cells slots Q (F0 m pc ls (.int x :: .ref (ad h) :: rest)) :=
  w_putN F hI hP hS hh hC rfl Wi_wsX10 tyX1 tyX1_ok nmX1 7 (by decide) nw_X3_39 rfl rfl rfl hl hu hdg kk
theorem gf_X4_18 (F : wFix p s m c args cc RX4 nL D Y ad N) (hP : wP D ad N C H) {h : Nat} {fs : List Value} (hh : h < N) (hC : C h = .inr (4, fs)) {v : Value} (hv : fs[0]? = some v) (hdg : decode cc pc = .ok (.getfield 18, 3)) (kk : W p l e R s m args below meth c H locs cells slots Q (F0 m (pc + 3) ls (v :: rest))) : W p l e R s m args below meth c H locs cells slots Q (F0 m pc ls (.ref (ad h) :: rest)) :=
  w_get F hP hh hC rfl Wi_wsX40 0 (by decide) mw_65 hv hdg kk
theorem gf_X5_11 (F : wFix p s m c args cc RX5 nL D Y ad N) (hP : wP D ad N C H) {h : Nat} {fs : List Value} (hh : h < N) (hC : C h = .inr (5, fs)) {v : Value} (hv : fs[0]? = some v) (hdg : decode cc pc = .ok (.getfield 11, 3)) (kk : W p l e R s m args below meth c H locs cells slots Q (F0 m (pc + 3) ls (v :: rest))) : W p l e R s m args below meth c H locs cells slots Q (F0 m pc ls (.ref (ad h) :: rest)) :=
  w_get F hP hh hC rfl Wi_wsX50 0 (by decide) mw_71 hv hdg kk
theorem gf_X5_14 (F : wFix p s m c args cc RX5 nL D Y ad N) (hP : wP D ad N C H) {h : Nat} {fs : List Value} (hh : h < N) (hC : C h = .inr (5, fs)) {v : Value} (hv : fs[1]? = some v) (hdg : decode cc pc = .ok (.getfield 14, 3)) (kk : W p l e R s m args below meth c H locs cells slots Q (F0 m (pc + 3) ls (v :: rest))) : W p l e R s m args below meth c H locs cells slots Q (F0 m pc ls (.ref (ad h) :: rest)) :=
  w_get F hP hh hC rfl Wi_wsX50 1 (by decide) mw_72 hv hdg kk
theorem pf_X5_14 (F : wFix p s m c args cc RX5 nL D Y ad N) (hI : wI ad N) (hP : wP D ad N C H) (hS : va_S (wA ad N) s.heap H locs) {h : Nat} {fs : List Value} (hh : h < N) (hC : C h = .inr (5, fs)) {x : Int32} (hl : 1 < fs.length) (hu : ∀ j, va_up C h (.inr (5, fs.set 1 (.int x))) j = C1 j) (hdg : decode cc pc = .ok (.putfield 14, 3)) (kk : ∀ (H1 : Heap) (locs1 : List Loc), wP D ad N C1 H1 → va_S (wA ad N) s.heap H1 locs1 → W p l e R s m args below meth c H1 locs1 cells slots Q (F0 m (pc + 3) ls rest)) : W p l e R s m args below meth c H locs cells slots Q (F0 m pc ls (.int x :: .ref (ad h) :: rest)) :=
  w_put F hI hP hS hh hC rfl Wi_wsX50 tyX5 tyX5_ok nmX5 1 (by decide) mw_72 rfl rfl rfl hl hu hdg kk
theorem gf_X6_12 (F : wFix p s m c args cc RX6 nL D Y ad N) (hP : wP D ad N C H) {h : Nat} {fs : List Value} (hh : h < N) (hC : C h = .inr (6, fs)) {v : Value} (hv : fs[0]? = some v) (hdg : decode cc pc = .ok (.getfield 12, 3)) (kk : W p l e R s m args below meth c H locs cells slots Q (F0 m (pc + 3) ls (v :: rest))) : W p l e R s m args below meth c H locs cells slots Q (F0 m pc ls (.ref (ad h) :: rest)) :=
  w_get F hP hh hC rfl Wi_wsX60 0 (by decide) mw_39 hv hdg kk
theorem gf_X6_21 (F : wFix p s m c args cc RX6 nL D Y ad N) (hP : wP D ad N C H) {h : Nat} {fs : List Value} (hh : h < N) (hC : C h = .inr (6, fs)) {v : Value} (hv : fs[1]? = some v) (hdg : decode cc pc = .ok (.getfield 21, 3)) (kk : W p l e R s m args below meth c H locs cells slots Q (F0 m (pc + 3) ls (v :: rest))) : W p l e R s m args below meth c H locs cells slots Q (F0 m pc ls (.ref (ad h) :: rest)) :=
  w_get F hP hh hC rfl Wi_wsX60 1 (by decide) mw_43 hv hdg kk
theorem gf_X6_28 (F : wFix p s m c args cc RX6 nL D Y ad N) (hP : wP D ad N C H) {h : Nat} {fs : List Value} (hh : h < N) (hC : C h = .inr (6, fs)) {v : Value} (hv : fs[2]? = some v) (hdg : decode cc pc = .ok (.getfield 28, 3)) (kk : W p l e R s m args below meth c H locs cells slots Q (F0 m (pc + 3) ls (v :: rest))) : W p l e R s m args below meth c H locs cells slots Q (F0 m pc ls (.ref (ad h) :: rest)) :=
  w_get F hP hh hC rfl Wi_wsX60 2 (by decide) mw_45 hv hdg kk
theorem gf_X6_35 (F : wFix p s m c args cc RX6 nL D Y ad N) (hP : wP D ad N C H) {h : Nat} {fs : List Value} (hh : h < N) (hC : C h = .inr (6, fs)) {v : Value} (hv : fs[3]? = some v) (hdg : decode cc pc = .ok (.getfield 35, 3)) (kk : W p l e R s m args below meth c H locs cells slots Q (F0 m (pc + 3) ls (v :: rest))) : W p l e R s m args below meth c H locs cells slots Q (F0 m pc ls (.ref (ad h) :: rest)) :=
  w_get F hP hh hC rfl Wi_wsX60 3 (by decide) mw_49 hv hdg kk
theorem gf_X6_39 (F : wFix p s m c args cc RX6 nL D Y ad N) (hP : wP D ad N C H) {h : Nat} {fs : List Value} (hh : h < N) (hC : C h = .inr (6, fs)) {v : Value} (hv : fs[4]? = some v) (hdg : decode cc pc = .ok (.getfield 39, 3)) (kk : W p l e R s m args below meth c H locs cells slots Q (F0 m (pc + 3) ls (v :: rest))) : W p l e R s m args below meth c H locs cells slots Q (F0 m pc ls (.ref (ad h) :: rest)) :=
  w_get F hP hh hC rfl Wi_wsX60 4 (by decide) mw_51 hv hdg kk
theorem gf_X6_43 (F : wFix p s m c args cc RX6 nL D Y ad N) (hP : wP D ad N C H) {h : Nat} {fs : List Value} (hh : h < N) (hC : C h = .inr (6, fs)) {v : Value} (hv : fs[5]? = some v) (hdg : decode cc pc = .ok (.getfield 43, 3)) (kk : W p l e R s m args below meth c H locs cells slots Q (F0 m (pc + 3) ls (v :: rest))) : W p l e R s m args below meth c H locs cells slots Q (F0 m pc ls (.ref (ad h) :: rest)) :=
  w_get F hP hh hC rfl Wi_wsX60 5 (by decide) mw_52 hv hdg kk
theorem pf_X6_43 (F : wFix p s m c args cc RX6 nL D Y ad N) (hI : wI ad N) (hP : wP D ad N C H) (hS : va_S (wA ad N) s.heap H locs) {h : Nat} {fs : List Value} (hh : h < N) (hC : C h = .inr (6, fs)) {x : Int32} (hl : 5 < fs.length) (hu : ∀ j, va_up C h (.inr (6, fs.set 5 (.int x))) j = C1 j) (hdg : decode cc pc = .ok (.putfield 43, 3)) (kk : ∀ (H1 : Heap) (locs1 : List Loc), wP D ad N C1 H1 → va_S (wA ad N) s.heap H1 locs1 → W p l e R s m args below meth c H1 locs1 cells slots Q (F0 m (pc + 3) ls rest)) : W p l e R s m args below meth c H locs cells slots Q (F0 m pc ls (.int x :: .ref (ad h) :: rest)) :=
  w_put F hI hP hS hh hC rfl Wi_wsX60 tyX6 tyX6_ok nmX6 5 (by decide) mw_52 rfl rfl rfl hl hu hdg kk
theorem gf_X6_47 (F : wFix p s m c args cc RX6 nL D Y ad N) (hP : wP D ad N C H) {h : Nat} {fs : List Value} (hh : h < N) (hC : C h = .inr (6, fs)) {v : Value} (hv : fs[6]? = some v) (hdg : decode cc pc = .ok (.getfield 47, 3)) (kk : W p l e R s m args below meth c H locs cells slots Q (F0 m (pc + 3) ls (v :: rest))) : W p l e R s m args below meth c H locs cells slots Q (F0 m pc ls (.ref (ad h) :: rest)) :=
  w_get F hP hh hC rfl Wi_wsX60 6 (by decide) mw_53 hv hdg kk
theorem pf_X6_47 (F : wFix p s m c args cc RX6 nL D Y ad N) (hI : wI ad N) (hP : wP D ad N C H) (hS : va_S (wA ad N) s.heap H locs) {h : Nat} {fs : List Value} (hh : h < N) (hC : C h = .inr (6, fs)) {x : Int32} (hl : 6 < fs.length) (hu : ∀ j, va_up C h (.inr (6, fs.set 6 (.int x))) j = C1 j) (hdg : decode cc pc = .ok (.putfield 47, 3)) (kk : ∀ (H1 : Heap) (locs1 : List Loc), wP D ad N C1 H1 → va_S (wA ad N) s.heap H1 locs1 → W p l e R s m args below meth c H1 locs1 cells slots Q (F0 m (pc + 3) ls rest)) : W p l e R s m args below meth c H locs cells slots Q (F0 m pc ls (.int x :: .ref (ad h) :: rest)) :=
  w_put F hI hP hS hh hC rfl Wi_wsX60 tyX6 tyX6_ok nmX6 6 (by decide) mw_53 rfl rfl rfl hl hu hdg kk
theorem gf_X6_69 (F : wFix p s m c args cc RX6 nL D Y ad N) (hP : wP D ad N C H) {h : Nat} {fs : List Value} (hh : h < N) (hC : C h = .inr (5, fs)) {v : Value} (hv : fs[1]? = some v) (hdg : decode cc pc = .ok (.getfield 69, 3)) (kk : W p l e R s m args below meth c H locs cells slots Q (F0 m (pc + 3) ls (v :: rest))) : W p l e R s m args below meth c H locs cells slots Q (F0 m pc ls (.ref (ad h) :: rest)) :=
  w_getN F hP hh hC rfl Wi_wsX50 1 (by decide) nw_X6_69 hv hdg kk
theorem pf_X6_69 (F : wFix p s m c args cc RX6 nL D Y ad N) (hI : wI ad N) (hP : wP D ad N C H) (hS : va_S (wA ad N) s.heap H locs) {h : Nat} {fs : List Value} (hh : h < N) (hC : C h = .inr (5, fs)) {x : Int32} (hl : 1 < fs.length) (hu : ∀ j, va_up C h (.inr (5, fs.set 1 (.int x))) j = C1 j) (hdg : decode cc pc = .ok (.putfield 69, 3)) (kk : ∀ (H1 : Heap) (locs1 : List Loc), wP D ad N C1 H1 → va_S (wA ad N) s.heap H1 locs1 → W p l e R s m args below meth c H1 locs1 cells slots Q (F0 m (pc + 3) ls rest)) : W p l e R s m args below meth c H locs cells slots Q (F0 m pc ls (.int x :: .ref (ad h) :: rest)) :=
  w_putN F hI hP hS hh hC rfl Wi_wsX50 tyX5 tyX5_ok nmX5 1 (by decide) nw_X6_69 rfl rfl rfl hl hu hdg kk
theorem gf_X6_101 (F : wFix p s m c args cc RX6 nL D Y ad N) (hP : wP D ad N C H) {h : Nat} {fs : List Value} (hh : h < N) (hC : C h = .inr (1, fs)) {v : Value} (hv : fs[6]? = some v) (hdg : decode cc pc = .ok (.getfield 101, 3)) (kk : W p l e R s m args below meth c H locs cells slots Q (F0 m (pc + 3) ls (v :: rest))) : W p l e R s m args below meth c H locs cells slots Q (F0 m pc ls (.ref (ad h) :: rest)) :=
  w_getN F hP hh hC rfl Wi_wsX10 6 (by decide) nw_X6_101 hv hdg kk
theorem pf_X6_101 (F : wFix p s m c args cc RX6 nL D Y ad N) (hI : wI ad N) (hP : wP D ad N C H) (hS : va_S (wA ad N) s.heap H locs) {h : Nat} {fs : List Value} (hh : h < N) (hC : C h = .inr (1, fs)) {x : Int32} (hl : 6 < fs.length) (hu : ∀ j, va_up C h (.inr (1, fs.set 6 (.int x))) j = C1 j) (hdg : decode cc pc = .ok (.putfield 101, 3)) (kk : ∀ (H1 : Heap) (locs1 : List Loc), wP D ad N C1 H1 → va_S (wA ad N) s.heap H1 locs1 → W p l e R s m args below meth c H1 locs1 cells slots Q (F0 m (pc + 3) ls rest)) : W p l e R s m args below meth c H locs cells slots Q (F0 m pc ls (.int x :: .ref (ad h) :: rest)) :=
  w_putN F hI hP hS hh hC rfl Wi_wsX10 tyX1 tyX1_ok nmX1 6 (by decide) nw_X6_101 rfl rfl rfl hl hu hdg kk
theorem gf_X6_104 (F : wFix p s m c args cc RX6 nL D Y ad N) (hP : wP D ad N C H) {h : Nat} {fs : List Value} (hh : h < N) (hC : C h = .inr (1, fs)) {v : Value} (hv : fs[5]? = some v) (hdg : decode cc pc = .ok (.getfield 104, 3)) (kk : W p l e R s m args below meth c H locs cells slots Q (F0 m (pc + 3) ls (v :: rest))) : W p l e R s m args below meth c H locs cells slots Q (F0 m pc ls (.ref (ad h) :: rest)) :=
  w_getN F hP hh hC rfl Wi_wsX10 5 (by decide) nw_X6_104 hv hdg kk
theorem pf_X6_104 (F : wFix p s m c args cc RX6 nL D Y ad N) (hI : wI ad N) (hP : wP D ad N C H) (hS : va_S (wA ad N) s.heap H locs) {h : Nat} {fs : List Value} (hh : h < N) (hC : C h = .inr (1, fs)) {x : Int32} (hl : 5 < fs.length) (hu : ∀ j, va_up C h (.inr (1, fs.set 5 (.int x))) j = C1 j) (hdg : decode cc pc = .ok (.putfield 104, 3)) (kk : ∀ (H1 : Heap) (locs1 : List Loc), wP D ad N C1 H1 → va_S (wA ad N) s.heap H1 locs1 → W p l e R s m args below meth c H1 locs1 cells slots Q (F0 m (pc + 3) ls rest)) : W p l e R s m args below meth c H locs cells slots Q (F0 m pc ls (.int x :: .ref (ad h) :: rest)) :=
  w_putN F hI hP hS hh hC rfl Wi_wsX10 tyX1 tyX1_ok nmX1 5 (by decide) nw_X6_104 rfl rfl rfl hl hu hdg kk
theorem gf_X6_120 (F : wFix p s m c args cc RX6 nL D Y ad N) (hP : wP D ad N C H) {h : Nat} {fs : List Value} (hh : h < N) (hC : C h = .inr (1, fs)) {v : Value} (hv : fs[3]? = some v) (hdg : decode cc pc = .ok (.getfield 120, 3)) (kk : W p l e R s m args below meth c H locs cells slots Q (F0 m (pc + 3) ls (v :: rest))) : W p l e R s m args below meth c H locs cells slots Q (F0 m pc ls (.ref (ad h) :: rest)) :=
  w_getN F hP hh hC rfl Wi_wsX10 3 (by decide) nw_X6_120 hv hdg kk
theorem pf_X6_120 (F : wFix p s m c args cc RX6 nL D Y ad N) (hI : wI ad N) (hP : wP D ad N C H) (hS : va_S (wA ad N) s.heap H locs) {h : Nat} {fs : List Value} (hh : h < N) (hC : C h = .inr (1, fs)) {x : Int32} (hl : 3 < fs.length) (hu : ∀ j, va_up C h (.inr (1, fs.set 3 (.int x))) j = C1 j) (hdg : decode cc pc = .ok (.putfield 120, 3)) (kk : ∀ (H1 : Heap) (locs1 : List Loc), wP D ad N C1 H1 → va_S (wA ad N) s.heap H1 locs1 → W p l e R s m args below meth c H1 locs1 cells slots Q (F0 m (pc + 3) ls rest)) : W p l e R s m args below meth c H locs cells slots Q (F0 m pc ls (.int x :: .ref (ad h) :: rest)) :=
  w_putN F hI hP hS hh hC rfl Wi_wsX10 tyX1 tyX1_ok nmX1 3 (by decide) nw_X6_120 rfl rfl rfl hl hu hdg kk
theorem gf_X6_126 (F : wFix p s m c args cc RX6 nL D Y ad N) (hP : wP D ad N C H) {h : Nat} {fs : List Value} (hh : h < N) (hC : C h = .inr (1, fs)) {v : Value} (hv : fs[2]? = some v) (hdg : decode cc pc = .ok (.getfield 126, 3)) (kk : W p l e R s m args below meth c H locs cells slots Q (F0 m (pc + 3) ls (v :: rest))) : W p l e R s m args below meth c H locs cells slots Q (F0 m pc ls (.ref (ad h) :: rest)) :=
  w_getN F hP hh hC rfl Wi_wsX10 2 (by decide) nw_X6_126 hv hdg kk
theorem pf_X6_126 (F : wFix p s m c args cc RX6 nL D Y ad N) (hI : wI ad N) (hP : wP D ad N C H) (hS : va_S (wA ad N) s.heap H locs) {h : Nat} {fs : List Value} (hh : h < N) (hC : C h = .inr (1, fs)) {x : Int32} (hl : 2 < fs.length) (hu : ∀ j, va_up C h (.inr (1, fs.set 2 (.int x))) j = C1 j) (hdg : decode cc pc = .ok (.putfield 126, 3)) (kk : ∀ (H1 : Heap) (locs1 : List Loc), wP D ad N C1 H1 → va_S (wA ad N) s.heap H1 locs1 → W p l e R s m args below meth c H1 locs1 cells slots Q (F0 m (pc + 3) ls rest)) : W p l e R s m args below meth c H locs cells slots Q (F0 m pc ls (.int x :: .ref (ad h) :: rest)) :=
  w_putN F hI hP hS hh hC rfl Wi_wsX10 tyX1 tyX1_ok nmX1 2 (by decide) nw_X6_126 rfl rfl rfl hl hu hdg kk
theorem gf_X7_10 (F : wFix p s m c args cc RX7 nL D Y ad N) (hP : wP D ad N C H) {h : Nat} {fs : List Value} (hh : h < N) (hC : C h = .inr (7, fs)) {v : Value} (hv : fs[0]? = some v) (hdg : decode cc pc = .ok (.getfield 10, 3)) (kk : W p l e R s m args below meth c H locs cells slots Q (F0 m (pc + 3) ls (v :: rest))) : W p l e R s m args below meth c H locs cells slots Q (F0 m pc ls (.ref (ad h) :: rest)) :=
  w_get F hP hh hC rfl Wi_wsX70 0 (by decide) mw_16 hv hdg kk
theorem gf_X7_19 (F : wFix p s m c args cc RX7 nL D Y ad N) (hP : wP D ad N C H) {h : Nat} {fs : List Value} (hh : h < N) (hC : C h = .inr (7, fs)) {v : Value} (hv : fs[1]? = some v) (hdg : decode cc pc = .ok (.getfield 19, 3)) (kk : W p l e R s m args below meth c H locs cells slots Q (F0 m (pc + 3) ls (v :: rest))) : W p l e R s m args below meth c H locs cells slots Q (F0 m pc ls (.ref (ad h) :: rest)) :=
  w_get F hP hh hC rfl Wi_wsX70 1 (by decide) mw_20 hv hdg kk
theorem gf_X7_23 (F : wFix p s m c args cc RX7 nL D Y ad N) (hP : wP D ad N C H) {h : Nat} {fs : List Value} (hh : h < N) (hC : C h = .inr (7, fs)) {v : Value} (hv : fs[2]? = some v) (hdg : decode cc pc = .ok (.getfield 23, 3)) (kk : W p l e R s m args below meth c H locs cells slots Q (F0 m (pc + 3) ls (v :: rest))) : W p l e R s m args below meth c H locs cells slots Q (F0 m pc ls (.ref (ad h) :: rest)) :=
  w_get F hP hh hC rfl Wi_wsX70 2 (by decide) mw_21 hv hdg kk
theorem gf_X7_27 (F : wFix p s m c args cc RX7 nL D Y ad N) (hP : wP D ad N C H) {h : Nat} {fs : List Value} (hh : h < N) (hC : C h = .inr (7, fs)) {v : Value} (hv : fs[3]? = some v) (hdg : decode cc pc = .ok (.getfield 27, 3)) (kk : W p l e R s m args below meth c H locs cells slots Q (F0 m (pc + 3) ls (v :: rest))) : W p l e R s m args below meth c H locs cells slots Q (F0 m pc ls (.ref (ad h) :: rest)) :=
  w_get F hP hh hC rfl Wi_wsX70 3 (by decide) mw_23 hv hdg kk
theorem gf_X7_34 (F : wFix p s m c args cc RX7 nL D Y ad N) (hP : wP D ad N C H) {h : Nat} {fs : List Value} (hh : h < N) (hC : C h = .inr (7, fs)) {v : Value} (hv : fs[4]? = some v) (hdg : decode cc pc = .ok (.getfield 34, 3)) (kk : W p l e R s m args below meth c H locs cells slots Q (F0 m (pc + 3) ls (v :: rest))) : W p l e R s m args below meth c H locs cells slots Q (F0 m pc ls (.ref (ad h) :: rest)) :=
  w_get F hP hh hC rfl Wi_wsX70 4 (by decide) mw_27 hv hdg kk
theorem gf_X7_41 (F : wFix p s m c args cc RX7 nL D Y ad N) (hP : wP D ad N C H) {h : Nat} {fs : List Value} (hh : h < N) (hC : C h = .inr (7, fs)) {v : Value} (hv : fs[5]? = some v) (hdg : decode cc pc = .ok (.getfield 41, 3)) (kk : W p l e R s m args below meth c H locs cells slots Q (F0 m (pc + 3) ls (v :: rest))) : W p l e R s m args below meth c H locs cells slots Q (F0 m pc ls (.ref (ad h) :: rest)) :=
  w_get F hP hh hC rfl Wi_wsX70 5 (by decide) mw_31 hv hdg kk
theorem gf_X7_45 (F : wFix p s m c args cc RX7 nL D Y ad N) (hP : wP D ad N C H) {h : Nat} {fs : List Value} (hh : h < N) (hC : C h = .inr (6, fs)) {v : Value} (hv : fs[0]? = some v) (hdg : decode cc pc = .ok (.getfield 45, 3)) (kk : W p l e R s m args below meth c H locs cells slots Q (F0 m (pc + 3) ls (v :: rest))) : W p l e R s m args below meth c H locs cells slots Q (F0 m pc ls (.ref (ad h) :: rest)) :=
  w_getN F hP hh hC rfl Wi_wsX60 0 (by decide) nw_X7_45 hv hdg kk
theorem gf_X7_70 (F : wFix p s m c args cc RX7 nL D Y ad N) (hP : wP D ad N C H) {h : Nat} {fs : List Value} (hh : h < N) (hC : C h = .inr (6, fs)) {v : Value} (hv : fs[1]? = some v) (hdg : decode cc pc = .ok (.getfield 70, 3)) (kk : W p l e R s m args below meth c H locs cells slots Q (F0 m (pc + 3) ls (v :: rest))) : W p l e R s m args below meth c H locs cells slots Q (F0 m pc ls (.ref (ad h) :: rest)) :=
  w_getN F hP hh hC rfl Wi_wsX60 1 (by decide) nw_X7_70 hv hdg kk
theorem gf_X7_111 (F : wFix p s m c args cc RX7 nL D Y ad N) (hP : wP D ad N C H) {h : Nat} {fs : List Value} (hh : h < N) (hC : C h = .inr (6, fs)) {v : Value} (hv : fs[2]? = some v) (hdg : decode cc pc = .ok (.getfield 111, 3)) (kk : W p l e R s m args below meth c H locs cells slots Q (F0 m (pc + 3) ls (v :: rest))) : W p l e R s m args below meth c H locs cells slots Q (F0 m pc ls (.ref (ad h) :: rest)) :=
  w_getN F hP hh hC rfl Wi_wsX60 2 (by decide) nw_X7_111 hv hdg kk
theorem gf_X7_114 (F : wFix p s m c args cc RX7 nL D Y ad N) (hP : wP D ad N C H) {h : Nat} {fs : List Value} (hh : h < N) (hC : C h = .inr (1, fs)) {v : Value} (hv : fs[0]? = some v) (hdg : decode cc pc = .ok (.getfield 114, 3)) (kk : W p l e R s m args below meth c H locs cells slots Q (F0 m (pc + 3) ls (v :: rest))) : W p l e R s m args below meth c H locs cells slots Q (F0 m pc ls (.ref (ad h) :: rest)) :=
  w_getN F hP hh hC rfl Wi_wsX10 0 (by decide) nw_X7_114 hv hdg kk
theorem pf_X7_114 (F : wFix p s m c args cc RX7 nL D Y ad N) (hI : wI ad N) (hP : wP D ad N C H) (hS : va_S (wA ad N) s.heap H locs) {h : Nat} {fs : List Value} (hh : h < N) (hC : C h = .inr (1, fs)) {x : Int32} (hz : x = 0 ∨ x = 1) (hl : 0 < fs.length) (hu : ∀ j, va_up C h (.inr (1, fs.set 0 (.int x))) j = C1 j) (hdg : decode cc pc = .ok (.putfield 114, 3)) (kk : ∀ (H1 : Heap) (locs1 : List Loc), wP D ad N C1 H1 → va_S (wA ad N) s.heap H1 locs1 → W p l e R s m args below meth c H1 locs1 cells slots Q (F0 m (pc + 3) ls rest)) : W p l e R s m args below meth c H locs cells slots Q (F0 m pc ls (.int x :: .ref (ad h) :: rest)) :=
  w_putN F hI hP hS hh hC rfl Wi_wsX10 tyX1 tyX1_ok nmX1 0 (by decide) nw_X7_114 rfl (by rcases hz with rfl | rfl <;> rfl) (by rcases hz with rfl | rfl <;> rfl) hl hu hdg kk
theorem gf_X7_122 (F : wFix p s m c args cc RX7 nL D Y ad N) (hP : wP D ad N C H) {h : Nat} {fs : List Value} (hh : h < N) (hC : C h = .inr (6, fs)) {v : Value} (hv : fs[3]? = some v) (hdg : decode cc pc = .ok (.getfield 122, 3)) (kk : W p l e R s m args below meth c H locs cells slots Q (F0 m (pc + 3) ls (v :: rest))) : W p l e R s m args below meth c H locs cells slots Q (F0 m pc ls (.ref (ad h) :: rest)) :=
  w_getN F hP hh hC rfl Wi_wsX60 3 (by decide) nw_X7_122 hv hdg kk
theorem gf_X7_130 (F : wFix p s m c args cc RX7 nL D Y ad N) (hP : wP D ad N C H) {h : Nat} {fs : List Value} (hh : h < N) (hC : C h = .inr (2, fs)) {v : Value} (hv : fs[1]? = some v) (hdg : decode cc pc = .ok (.getfield 130, 3)) (kk : W p l e R s m args below meth c H locs cells slots Q (F0 m (pc + 3) ls (v :: rest))) : W p l e R s m args below meth c H locs cells slots Q (F0 m pc ls (.ref (ad h) :: rest)) :=
  w_getN F hP hh hC rfl Wi_wsX20 1 (by decide) nw_X7_130 hv hdg kk
theorem pf_X7_130 (F : wFix p s m c args cc RX7 nL D Y ad N) (hI : wI ad N) (hP : wP D ad N C H) (hS : va_S (wA ad N) s.heap H locs) {h : Nat} {fs : List Value} (hh : h < N) (hC : C h = .inr (2, fs)) {x : Int32} (hl : 1 < fs.length) (hu : ∀ j, va_up C h (.inr (2, fs.set 1 (.int x))) j = C1 j) (hdg : decode cc pc = .ok (.putfield 130, 3)) (kk : ∀ (H1 : Heap) (locs1 : List Loc), wP D ad N C1 H1 → va_S (wA ad N) s.heap H1 locs1 → W p l e R s m args below meth c H1 locs1 cells slots Q (F0 m (pc + 3) ls rest)) : W p l e R s m args below meth c H locs cells slots Q (F0 m pc ls (.int x :: .ref (ad h) :: rest)) :=
  w_putN F hI hP hS hh hC rfl Wi_wsX20 tyX2 tyX2_ok nmX2 1 (by decide) nw_X7_130 rfl rfl rfl hl hu hdg kk
theorem gf_X7_134 (F : wFix p s m c args cc RX7 nL D Y ad N) (hP : wP D ad N C H) {h : Nat} {fs : List Value} (hh : h < N) (hC : C h = .inr (0, fs)) {v : Value} (hv : fs[2]? = some v) (hdg : decode cc pc = .ok (.getfield 134, 3)) (kk : W p l e R s m args below meth c H locs cells slots Q (F0 m (pc + 3) ls (v :: rest))) : W p l e R s m args below meth c H locs cells slots Q (F0 m pc ls (.ref (ad h) :: rest)) :=
  w_getN F hP hh hC rfl Wi_wsX00 2 (by decide) nw_X7_134 hv hdg kk
theorem pf_X7_134 (F : wFix p s m c args cc RX7 nL D Y ad N) (hI : wI ad N) (hP : wP D ad N C H) (hS : va_S (wA ad N) s.heap H locs) {h : Nat} {fs : List Value} (hh : h < N) (hC : C h = .inr (0, fs)) {x : Int32} (hl : 2 < fs.length) (hu : ∀ j, va_up C h (.inr (0, fs.set 2 (.int x))) j = C1 j) (hdg : decode cc pc = .ok (.putfield 134, 3)) (kk : ∀ (H1 : Heap) (locs1 : List Loc), wP D ad N C1 H1 → va_S (wA ad N) s.heap H1 locs1 → W p l e R s m args below meth c H1 locs1 cells slots Q (F0 m (pc + 3) ls rest)) : W p l e R s m args below meth c H locs cells slots Q (F0 m pc ls (.int x :: .ref (ad h) :: rest)) :=
  w_putN F hI hP hS hh hC rfl Wi_wsX00 tyX0 tyX0_ok nmX0 2 (by decide) nw_X7_134 rfl rfl rfl hl hu hdg kk
theorem gf_X7_141 (F : wFix p s m c args cc RX7 nL D Y ad N) (hP : wP D ad N C H) {h : Nat} {fs : List Value} (hh : h < N) (hC : C h = .inr (1, fs)) {v : Value} (hv : fs[1]? = some v) (hdg : decode cc pc = .ok (.getfield 141, 3)) (kk : W p l e R s m args below meth c H locs cells slots Q (F0 m (pc + 3) ls (v :: rest))) : W p l e R s m args below meth c H locs cells slots Q (F0 m pc ls (.ref (ad h) :: rest)) :=
  w_getN F hP hh hC rfl Wi_wsX10 1 (by decide) nw_X7_141 hv hdg kk
theorem pf_X7_141 (F : wFix p s m c args cc RX7 nL D Y ad N) (hI : wI ad N) (hP : wP D ad N C H) (hS : va_S (wA ad N) s.heap H locs) {h : Nat} {fs : List Value} (hh : h < N) (hC : C h = .inr (1, fs)) {x : Int32} (hl : 1 < fs.length) (hu : ∀ j, va_up C h (.inr (1, fs.set 1 (.int x))) j = C1 j) (hdg : decode cc pc = .ok (.putfield 141, 3)) (kk : ∀ (H1 : Heap) (locs1 : List Loc), wP D ad N C1 H1 → va_S (wA ad N) s.heap H1 locs1 → W p l e R s m args below meth c H1 locs1 cells slots Q (F0 m (pc + 3) ls rest)) : W p l e R s m args below meth c H locs cells slots Q (F0 m pc ls (.int x :: .ref (ad h) :: rest)) :=
  w_putN F hI hP hS hh hC rfl Wi_wsX10 tyX1 tyX1_ok nmX1 1 (by decide) nw_X7_141 rfl rfl rfl hl hu hdg kk
theorem gf_X7_144 (F : wFix p s m c args cc RX7 nL D Y ad N) (hP : wP D ad N C H) {h : Nat} {fs : List Value} (hh : h < N) (hC : C h = .inr (1, fs)) {v : Value} (hv : fs[2]? = some v) (hdg : decode cc pc = .ok (.getfield 144, 3)) (kk : W p l e R s m args below meth c H locs cells slots Q (F0 m (pc + 3) ls (v :: rest))) : W p l e R s m args below meth c H locs cells slots Q (F0 m pc ls (.ref (ad h) :: rest)) :=
  w_getN F hP hh hC rfl Wi_wsX10 2 (by decide) nw_X7_144 hv hdg kk
theorem pf_X7_144 (F : wFix p s m c args cc RX7 nL D Y ad N) (hI : wI ad N) (hP : wP D ad N C H) (hS : va_S (wA ad N) s.heap H locs) {h : Nat} {fs : List Value} (hh : h < N) (hC : C h = .inr (1, fs)) {x : Int32} (hl : 2 < fs.length) (hu : ∀ j, va_up C h (.inr (1, fs.set 2 (.int x))) j = C1 j) (hdg : decode cc pc = .ok (.putfield 144, 3)) (kk : ∀ (H1 : Heap) (locs1 : List Loc), wP D ad N C1 H1 → va_S (wA ad N) s.heap H1 locs1 → W p l e R s m args below meth c H1 locs1 cells slots Q (F0 m (pc + 3) ls rest)) : W p l e R s m args below meth c H locs cells slots Q (F0 m pc ls (.int x :: .ref (ad h) :: rest)) :=
  w_putN F hI hP hS hh hC rfl Wi_wsX10 tyX1 tyX1_ok nmX1 2 (by decide) nw_X7_144 rfl rfl rfl hl hu hdg kk
theorem gf_X7_147 (F : wFix p s m c args cc RX7 nL D Y ad N) (hP : wP D ad N C H) {h : Nat} {fs : List Value} (hh : h < N) (hC : C h = .inr (1, fs)) {v : Value} (hv : fs[3]? = some v) (hdg : decode cc pc = .ok (.getfield 147, 3)) (kk : W p l e R s m args below meth c H locs cells slots Q (F0 m (pc + 3) ls (v :: rest))) : W p l e R s m args below meth c H locs cells slots Q (F0 m pc ls (.ref (ad h) :: rest)) :=
  w_getN F hP hh hC rfl Wi_wsX10 3 (by decide) nw_X7_147 hv hdg kk
theorem pf_X7_147 (F : wFix p s m c args cc RX7 nL D Y ad N) (hI : wI ad N) (hP : wP D ad N C H) (hS : va_S (wA ad N) s.heap H locs) {h : Nat} {fs : List Value} (hh : h < N) (hC : C h = .inr (1, fs)) {x : Int32} (hl : 3 < fs.length) (hu : ∀ j, va_up C h (.inr (1, fs.set 3 (.int x))) j = C1 j) (hdg : decode cc pc = .ok (.putfield 147, 3)) (kk : ∀ (H1 : Heap) (locs1 : List Loc), wP D ad N C1 H1 → va_S (wA ad N) s.heap H1 locs1 → W p l e R s m args below meth c H1 locs1 cells slots Q (F0 m (pc + 3) ls rest)) : W p l e R s m args below meth c H locs cells slots Q (F0 m pc ls (.int x :: .ref (ad h) :: rest)) :=
  w_putN F hI hP hS hh hC rfl Wi_wsX10 tyX1 tyX1_ok nmX1 3 (by decide) nw_X7_147 rfl rfl rfl hl hu hdg kk
theorem gf_X7_150 (F : wFix p s m c args cc RX7 nL D Y ad N) (hP : wP D ad N C H) {h : Nat} {fs : List Value} (hh : h < N) (hC : C h = .inr (1, fs)) {v : Value} (hv : fs[4]? = some v) (hdg : decode cc pc = .ok (.getfield 150, 3)) (kk : W p l e R s m args below meth c H locs cells slots Q (F0 m (pc + 3) ls (v :: rest))) : W p l e R s m args below meth c H locs cells slots Q (F0 m pc ls (.ref (ad h) :: rest)) :=
  w_getN F hP hh hC rfl Wi_wsX10 4 (by decide) nw_X7_150 hv hdg kk
theorem pf_X7_150 (F : wFix p s m c args cc RX7 nL D Y ad N) (hI : wI ad N) (hP : wP D ad N C H) (hS : va_S (wA ad N) s.heap H locs) {h : Nat} {fs : List Value} (hh : h < N) (hC : C h = .inr (1, fs)) {x : Int32} (hl : 4 < fs.length) (hu : ∀ j, va_up C h (.inr (1, fs.set 4 (.int x))) j = C1 j) (hdg : decode cc pc = .ok (.putfield 150, 3)) (kk : ∀ (H1 : Heap) (locs1 : List Loc), wP D ad N C1 H1 → va_S (wA ad N) s.heap H1 locs1 → W p l e R s m args below meth c H1 locs1 cells slots Q (F0 m (pc + 3) ls rest)) : W p l e R s m args below meth c H locs cells slots Q (F0 m pc ls (.int x :: .ref (ad h) :: rest)) :=
  w_putN F hI hP hS hh hC rfl Wi_wsX10 tyX1 tyX1_ok nmX1 4 (by decide) nw_X7_150 rfl rfl rfl hl hu hdg kk
theorem gf_X7_153 (F : wFix p s m c args cc RX7 nL D Y ad N) (hP : wP D ad N C H) {h : Nat} {fs : List Value} (hh : h < N) (hC : C h = .inr (1, fs)) {v : Value} (hv : fs[5]? = some v) (hdg : decode cc pc = .ok (.getfield 153, 3)) (kk : W p l e R s m args below meth c H locs cells slots Q (F0 m (pc + 3) ls (v :: rest))) : W p l e R s m args below meth c H locs cells slots Q (F0 m pc ls (.ref (ad h) :: rest)) :=
  w_getN F hP hh hC rfl Wi_wsX10 5 (by decide) nw_X7_153 hv hdg kk
theorem pf_X7_153 (F : wFix p s m c args cc RX7 nL D Y ad N) (hI : wI ad N) (hP : wP D ad N C H) (hS : va_S (wA ad N) s.heap H locs) {h : Nat} {fs : List Value} (hh : h < N) (hC : C h = .inr (1, fs)) {x : Int32} (hl : 5 < fs.length) (hu : ∀ j, va_up C h (.inr (1, fs.set 5 (.int x))) j = C1 j) (hdg : decode cc pc = .ok (.putfield 153, 3)) (kk : ∀ (H1 : Heap) (locs1 : List Loc), wP D ad N C1 H1 → va_S (wA ad N) s.heap H1 locs1 → W p l e R s m args below meth c H1 locs1 cells slots Q (F0 m (pc + 3) ls rest)) : W p l e R s m args below meth c H locs cells slots Q (F0 m pc ls (.int x :: .ref (ad h) :: rest)) :=
  w_putN F hI hP hS hh hC rfl Wi_wsX10 tyX1 tyX1_ok nmX1 5 (by decide) nw_X7_153 rfl rfl rfl hl hu hdg kk
theorem gf_X7_156 (F : wFix p s m c args cc RX7 nL D Y ad N) (hP : wP D ad N C H) {h : Nat} {fs : List Value} (hh : h < N) (hC : C h = .inr (1, fs)) {v : Value} (hv : fs[6]? = some v) (hdg : decode cc pc = .ok (.getfield 156, 3)) (kk : W p l e R s m args below meth c H locs cells slots Q (F0 m (pc + 3) ls (v :: rest))) : W p l e R s m args below meth c H locs cells slots Q (F0 m pc ls (.ref (ad h) :: rest)) :=
  w_getN F hP hh hC rfl Wi_wsX10 6 (by decide) nw_X7_156 hv hdg kk
theorem pf_X7_156 (F : wFix p s m c args cc RX7 nL D Y ad N) (hI : wI ad N) (hP : wP D ad N C H) (hS : va_S (wA ad N) s.heap H locs) {h : Nat} {fs : List Value} (hh : h < N) (hC : C h = .inr (1, fs)) {x : Int32} (hl : 6 < fs.length) (hu : ∀ j, va_up C h (.inr (1, fs.set 6 (.int x))) j = C1 j) (hdg : decode cc pc = .ok (.putfield 156, 3)) (kk : ∀ (H1 : Heap) (locs1 : List Loc), wP D ad N C1 H1 → va_S (wA ad N) s.heap H1 locs1 → W p l e R s m args below meth c H1 locs1 cells slots Q (F0 m (pc + 3) ls rest)) : W p l e R s m args below meth c H locs cells slots Q (F0 m pc ls (.int x :: .ref (ad h) :: rest)) :=
  w_putN F hI hP hS hh hC rfl Wi_wsX10 tyX1 tyX1_ok nmX1 6 (by decide) nw_X7_156 rfl rfl rfl hl hu hdg kk
theorem gf_X7_159 (F : wFix p s m c args cc RX7 nL D Y ad N) (hP : wP D ad N C H) {h : Nat} {fs : List Value} (hh : h < N) (hC : C h = .inr (1, fs)) {v : Value} (hv : fs[7]? = some v) (hdg : decode cc pc = .ok (.getfield 159, 3)) (kk : W p l e R s m args below meth c H locs cells slots Q (F0 m (pc + 3) ls (v :: rest))) : W p l e R s m args below meth c H locs cells slots Q (F0 m pc ls (.ref (ad h) :: rest)) :=
  w_getN F hP hh hC rfl Wi_wsX10 7 (by decide) nw_X7_159 hv hdg kk
theorem pf_X7_159 (F : wFix p s m c args cc RX7 nL D Y ad N) (hI : wI ad N) (hP : wP D ad N C H) (hS : va_S (wA ad N) s.heap H locs) {h : Nat} {fs : List Value} (hh : h < N) (hC : C h = .inr (1, fs)) {x : Int32} (hl : 7 < fs.length) (hu : ∀ j, va_up C h (.inr (1, fs.set 7 (.int x))) j = C1 j) (hdg : decode cc pc = .ok (.putfield 159, 3)) (kk : ∀ (H1 : Heap) (locs1 : List Loc), wP D ad N C1 H1 → va_S (wA ad N) s.heap H1 locs1 → W p l e R s m args below meth c H1 locs1 cells slots Q (F0 m (pc + 3) ls rest)) : W p l e R s m args below meth c H locs cells slots Q (F0 m pc ls (.int x :: .ref (ad h) :: rest)) :=
  w_putN F hI hP hS hh hC rfl Wi_wsX10 tyX1 tyX1_ok nmX1 7 (by decide) nw_X7_159 rfl rfl rfl hl hu hdg kk
theorem gf_X7_162 (F : wFix p s m c args cc RX7 nL D Y ad N) (hP : wP D ad N C H) {h : Nat} {fs : List Value} (hh : h < N) (hC : C h = .inr (1, fs)) {v : Value} (hv : fs[8]? = some v) (hdg : decode cc pc = .ok (.getfield 162, 3)) (kk : W p l e R s m args below meth c H locs cells slots Q (F0 m (pc + 3) ls (v :: rest))) : W p l e R s m args below meth c H locs cells slots Q (F0 m pc ls (.ref (ad h) :: rest)) :=
  w_getN F hP hh hC rfl Wi_wsX10 8 (by decide) nw_X7_162 hv hdg kk
theorem pf_X7_162 (F : wFix p s m c args cc RX7 nL D Y ad N) (hI : wI ad N) (hP : wP D ad N C H) (hS : va_S (wA ad N) s.heap H locs) {h : Nat} {fs : List Value} (hh : h < N) (hC : C h = .inr (1, fs)) {x : Int32} (hl : 8 < fs.length) (hu : ∀ j, va_up C h (.inr (1, fs.set 8 (.int x))) j = C1 j) (hdg : decode cc pc = .ok (.putfield 162, 3)) (kk : ∀ (H1 : Heap) (locs1 : List Loc), wP D ad N C1 H1 → va_S (wA ad N) s.heap H1 locs1 → W p l e R s m args below meth c H1 locs1 cells slots Q (F0 m (pc + 3) ls rest)) : W p l e R s m args below meth c H locs cells slots Q (F0 m pc ls (.int x :: .ref (ad h) :: rest)) :=
  w_putN F hI hP hS hh hC rfl Wi_wsX10 tyX1 tyX1_ok nmX1 8 (by decide) nw_X7_162 rfl rfl rfl hl hu hdg kk
theorem gf_X7_173 (F : wFix p s m c args cc RX7 nL D Y ad N) (hP : wP D ad N C H) {h : Nat} {fs : List Value} (hh : h < N) (hC : C h = .inr (1, fs)) {v : Value} (hv : fs[9]? = some v) (hdg : decode cc pc = .ok (.getfield 173, 3)) (kk : W p l e R s m args below meth c H locs cells slots Q (F0 m (pc + 3) ls (v :: rest))) : W p l e R s m args below meth c H locs cells slots Q (F0 m pc ls (.ref (ad h) :: rest)) :=
  w_getN F hP hh hC rfl Wi_wsX10 9 (by decide) nw_X7_173 hv hdg kk
theorem pf_X7_173 (F : wFix p s m c args cc RX7 nL D Y ad N) (hI : wI ad N) (hP : wP D ad N C H) (hS : va_S (wA ad N) s.heap H locs) {h : Nat} {fs : List Value} (hh : h < N) (hC : C h = .inr (1, fs)) {x : Int32} (hl : 9 < fs.length) (hu : ∀ j, va_up C h (.inr (1, fs.set 9 (.int x))) j = C1 j) (hdg : decode cc pc = .ok (.putfield 173, 3)) (kk : ∀ (H1 : Heap) (locs1 : List Loc), wP D ad N C1 H1 → va_S (wA ad N) s.heap H1 locs1 → W p l e R s m args below meth c H1 locs1 cells slots Q (F0 m (pc + 3) ls rest)) : W p l e R s m args below meth c H locs cells slots Q (F0 m pc ls (.int x :: .ref (ad h) :: rest)) :=
  w_putN F hI hP hS hh hC rfl Wi_wsX10 tyX1 tyX1_ok nmX1 9 (by decide) nw_X7_173 rfl rfl rfl hl hu hdg kk
theorem gf_X7_210 (F : wFix p s m c args cc RX7 nL D Y ad N) (hP : wP D ad N C H) {h : Nat} {fs : List Value} (hh : h < N) (hC : C h = .inr (2, fs)) {v : Value} (hv : fs[3]? = some v) (hdg : decode cc pc = .ok (.getfield 210, 3)) (kk : W p l e R s m args below meth c H locs cells slots Q (F0 m (pc + 3) ls (v :: rest))) : W p l e R s m args below meth c H locs cells slots Q (F0 m pc ls (.ref (ad h) :: rest)) :=
  w_getN F hP hh hC rfl Wi_wsX20 3 (by decide) nw_X7_210 hv hdg kk
theorem pf_X7_210 (F : wFix p s m c args cc RX7 nL D Y ad N) (hI : wI ad N) (hP : wP D ad N C H) (hS : va_S (wA ad N) s.heap H locs) {h : Nat} {fs : List Value} (hh : h < N) (hC : C h = .inr (2, fs)) {x : Int32} (hl : 3 < fs.length) (hu : ∀ j, va_up C h (.inr (2, fs.set 3 (.int x))) j = C1 j) (hdg : decode cc pc = .ok (.putfield 210, 3)) (kk : ∀ (H1 : Heap) (locs1 : List Loc), wP D ad N C1 H1 → va_S (wA ad N) s.heap H1 locs1 → W p l e R s m args below meth c H1 locs1 cells slots Q (F0 m (pc + 3) ls rest)) : W p l e R s m args below meth c H locs cells slots Q (F0 m pc ls (.int x :: .ref (ad h) :: rest)) :=
  w_putN F hI hP hS hh hC rfl Wi_wsX20 tyX2 tyX2_ok nmX2 3 (by decide) nw_X7_210 rfl rfl rfl hl hu hdg kk
theorem gf_X7_213 (F : wFix p s m c args cc RX7 nL D Y ad N) (hP : wP D ad N C H) {h : Nat} {fs : List Value} (hh : h < N) (hC : C h = .inr (2, fs)) {v : Value} (hv : fs[4]? = some v) (hdg : decode cc pc = .ok (.getfield 213, 3)) (kk : W p l e R s m args below meth c H locs cells slots Q (F0 m (pc + 3) ls (v :: rest))) : W p l e R s m args below meth c H locs cells slots Q (F0 m pc ls (.ref (ad h) :: rest)) :=
  w_getN F hP hh hC rfl Wi_wsX20 4 (by decide) nw_X7_213 hv hdg kk
theorem pf_X7_213 (F : wFix p s m c args cc RX7 nL D Y ad N) (hI : wI ad N) (hP : wP D ad N C H) (hS : va_S (wA ad N) s.heap H locs) {h : Nat} {fs : List Value} (hh : h < N) (hC : C h = .inr (2, fs)) {x : Int32} (hl : 4 < fs.length) (hu : ∀ j, va_up C h (.inr (2, fs.set 4 (.int x))) j = C1 j) (hdg : decode cc pc = .ok (.putfield 213, 3)) (kk : ∀ (H1 : Heap) (locs1 : List Loc), wP D ad N C1 H1 → va_S (wA ad N) s.heap H1 locs1 → W p l e R s m args below meth c H1 locs1 cells slots Q (F0 m (pc + 3) ls rest)) : W p l e R s m args below meth c H locs cells slots Q (F0 m pc ls (.int x :: .ref (ad h) :: rest)) :=
  w_putN F hI hP hS hh hC rfl Wi_wsX20 tyX2 tyX2_ok nmX2 4 (by decide) nw_X7_213 rfl rfl rfl hl hu hdg kk
theorem gf_X7_224 (F : wFix p s m c args cc RX7 nL D Y ad N) (hP : wP D ad N C H) {h : Nat} {fs : List Value} (hh : h < N) (hC : C h = .inr (5, fs)) {v : Value} (hv : fs[1]? = some v) (hdg : decode cc pc = .ok (.getfield 224, 3)) (kk : W p l e R s m args below meth c H locs cells slots Q (F0 m (pc + 3) ls (v :: rest))) : W p l e R s m args below meth c H locs cells slots Q (F0 m pc ls (.ref (ad h) :: rest)) :=
  w_getN F hP hh hC rfl Wi_wsX50 1 (by decide) nw_X7_224 hv hdg kk
theorem pf_X7_224 (F : wFix p s m c args cc RX7 nL D Y ad N) (hI : wI ad N) (hP : wP D ad N C H) (hS : va_S (wA ad N) s.heap H locs) {h : Nat} {fs : List Value} (hh : h < N) (hC : C h = .inr (5, fs)) {x : Int32} (hl : 1 < fs.length) (hu : ∀ j, va_up C h (.inr (5, fs.set 1 (.int x))) j = C1 j) (hdg : decode cc pc = .ok (.putfield 224, 3)) (kk : ∀ (H1 : Heap) (locs1 : List Loc), wP D ad N C1 H1 → va_S (wA ad N) s.heap H1 locs1 → W p l e R s m args below meth c H1 locs1 cells slots Q (F0 m (pc + 3) ls rest)) : W p l e R s m args below meth c H locs cells slots Q (F0 m pc ls (.int x :: .ref (ad h) :: rest)) :=
  w_putN F hI hP hS hh hC rfl Wi_wsX50 tyX5 tyX5_ok nmX5 1 (by decide) nw_X7_224 rfl rfl rfl hl hu hdg kk
theorem gf_X8_7 (F : wFix p s m c args cc RX8 nL D Y ad N) (hP : wP D ad N C H) {h : Nat} {fs : List Value} (hh : h < N) (hC : C h = .inr (8, fs)) {v : Value} (hv : fs[0]? = some v) (hdg : decode cc pc = .ok (.getfield 7, 3)) (kk : W p l e R s m args below meth c H locs cells slots Q (F0 m (pc + 3) ls (v :: rest))) : W p l e R s m args below meth c H locs cells slots Q (F0 m pc ls (.ref (ad h) :: rest)) :=
  w_get F hP hh hC rfl Wi_wsX80 0 (by decide) mw_106 hv hdg kk
theorem gf_X8_13 (F : wFix p s m c args cc RX8 nL D Y ad N) (hP : wP D ad N C H) {h : Nat} {fs : List Value} (hh : h < N) (hC : C h = .inr (8, fs)) {v : Value} (hv : fs[1]? = some v) (hdg : decode cc pc = .ok (.getfield 13, 3)) (kk : W p l e R s m args below meth c H locs cells slots Q (F0 m (pc + 3) ls (v :: rest))) : W p l e R s m args below meth c H locs cells slots Q (F0 m pc ls (.ref (ad h) :: rest)) :=
  w_get F hP hh hC rfl Wi_wsX80 1 (by decide) mw_107 hv hdg kk
theorem gf_X8_16 (F : wFix p s m c args cc RX8 nL D Y ad N) (hP : wP D ad N C H) {h : Nat} {fs : List Value} (hh : h < N) (hC : C h = .inr (8, fs)) {v : Value} (hv : fs[3]? = some v) (hdg : decode cc pc = .ok (.getfield 16, 3)) (kk : W p l e R s m args below meth c H locs cells slots Q (F0 m (pc + 3) ls (v :: rest))) : W p l e R s m args below meth c H locs cells slots Q (F0 m pc ls (.ref (ad h) :: rest)) :=
  w_get F hP hh hC rfl Wi_wsX80 3 (by decide) mw_108 hv hdg kk
theorem gf_X8_19 (F : wFix p s m c args cc RX8 nL D Y ad N) (hP : wP D ad N C H) {h : Nat} {fs : List Value} (hh : h < N) (hC : C h = .inr (8, fs)) {v : Value} (hv : fs[4]? = some v) (hdg : decode cc pc = .ok (.getfield 19, 3)) (kk : W p l e R s m args below meth c H locs cells slots Q (F0 m (pc + 3) ls (v :: rest))) : W p l e R s m args below meth c H locs cells slots Q (F0 m pc ls (.ref (ad h) :: rest)) :=
  w_get F hP hh hC rfl Wi_wsX80 4 (by decide) mw_109 hv hdg kk
theorem gf_X8_23 (F : wFix p s m c args cc RX8 nL D Y ad N) (hP : wP D ad N C H) {h : Nat} {fs : List Value} (hh : h < N) (hC : C h = .inr (8, fs)) {v : Value} (hv : fs[5]? = some v) (hdg : decode cc pc = .ok (.getfield 23, 3)) (kk : W p l e R s m args below meth c H locs cells slots Q (F0 m (pc + 3) ls (v :: rest))) : W p l e R s m args below meth c H locs cells slots Q (F0 m pc ls (.ref (ad h) :: rest)) :=
  w_get F hP hh hC rfl Wi_wsX80 5 (by decide) mw_110 hv hdg kk
theorem gf_X8_30 (F : wFix p s m c args cc RX8 nL D Y ad N) (hP : wP D ad N C H) {h : Nat} {fs : List Value} (hh : h < N) (hC : C h = .inr (8, fs)) {v : Value} (hv : fs[2]? = some v) (hdg : decode cc pc = .ok (.getfield 30, 3)) (kk : W p l e R s m args below meth c H locs cells slots Q (F0 m (pc + 3) ls (v :: rest))) : W p l e R s m args below meth c H locs cells slots Q (F0 m pc ls (.ref (ad h) :: rest)) :=
  w_get F hP hh hC rfl Wi_wsX80 2 (by decide) mw_188 hv hdg kk
theorem pf_X8_30 (F : wFix p s m c args cc RX8 nL D Y ad N) (hI : wI ad N) (hP : wP D ad N C H) (hS : va_S (wA ad N) s.heap H locs) {h : Nat} {fs : List Value} (hh : h < N) (hC : C h = .inr (8, fs)) {x : Int32} (hl : 2 < fs.length) (hu : ∀ j, va_up C h (.inr (8, fs.set 2 (.int x))) j = C1 j) (hdg : decode cc pc = .ok (.putfield 30, 3)) (kk : ∀ (H1 : Heap) (locs1 : List Loc), wP D ad N C1 H1 → va_S (wA ad N) s.heap H1 locs1 → W p l e R s m args below meth c H1 locs1 cells slots Q (F0 m (pc + 3) ls rest)) : W p l e R s m args below meth c H locs cells slots Q (F0 m pc ls (.int x :: .ref (ad h) :: rest)) :=
  w_put F hI hP hS hh hC rfl Wi_wsX80 tyX8 tyX8_ok nmX8 2 (by decide) mw_188 rfl rfl rfl hl hu hdg kk
theorem gf_X8_52 (F : wFix p s m c args cc RX8 nL D Y ad N) (hP : wP D ad N C H) {h : Nat} {fs : List Value} (hh : h < N) (hC : C h = .inr (8, fs)) {v : Value} (hv : fs[7]? = some v) (hdg : decode cc pc = .ok (.getfield 52, 3)) (kk : W p l e R s m args below meth c H locs cells slots Q (F0 m (pc + 3) ls (v :: rest))) : W p l e R s m args below meth c H locs cells slots Q (F0 m pc ls (.ref (ad h) :: rest)) :=
  w_get F hP hh hC rfl Wi_wsX80 7 (by decide) mw_370 hv hdg kk
theorem pf_X8_52 (F : wFix p s m c args cc RX8 nL D Y ad N) (hI : wI ad N) (hP : wP D ad N C H) (hS : va_S (wA ad N) s.heap H locs) {h : Nat} {fs : List Value} (hh : h < N) (hC : C h = .inr (8, fs)) {x : Int32} (hl : 7 < fs.length) (hu : ∀ j, va_up C h (.inr (8, fs.set 7 (.int x))) j = C1 j) (hdg : decode cc pc = .ok (.putfield 52, 3)) (kk : ∀ (H1 : Heap) (locs1 : List Loc), wP D ad N C1 H1 → va_S (wA ad N) s.heap H1 locs1 → W p l e R s m args below meth c H1 locs1 cells slots Q (F0 m (pc + 3) ls rest)) : W p l e R s m args below meth c H locs cells slots Q (F0 m pc ls (.int x :: .ref (ad h) :: rest)) :=
  w_put F hI hP hS hh hC rfl Wi_wsX80 tyX8 tyX8_ok nmX8 7 (by decide) mw_370 rfl rfl rfl hl hu hdg kk
theorem gf_X8_106 (F : wFix p s m c args cc RX8 nL D Y ad N) (hP : wP D ad N C H) {h : Nat} {fs : List Value} (hh : h < N) (hC : C h = .inr (8, fs)) {v : Value} (hv : fs[6]? = some v) (hdg : decode cc pc = .ok (.getfield 106, 3)) (kk : W p l e R s m args below meth c H locs cells slots Q (F0 m (pc + 3) ls (v :: rest))) : W p l e R s m args below meth c H locs cells slots Q (F0 m pc ls (.ref (ad h) :: rest)) :=
  w_get F hP hh hC rfl Wi_wsX80 6 (by decide) mw_501 hv hdg kk
theorem pf_X8_106 (F : wFix p s m c args cc RX8 nL D Y ad N) (hI : wI ad N) (hP : wP D ad N C H) (hS : va_S (wA ad N) s.heap H locs) {h : Nat} {fs : List Value} (hh : h < N) (hC : C h = .inr (8, fs)) {x : Int32} (hl : 6 < fs.length) (hu : ∀ j, va_up C h (.inr (8, fs.set 6 (.int x))) j = C1 j) (hdg : decode cc pc = .ok (.putfield 106, 3)) (kk : ∀ (H1 : Heap) (locs1 : List Loc), wP D ad N C1 H1 → va_S (wA ad N) s.heap H1 locs1 → W p l e R s m args below meth c H1 locs1 cells slots Q (F0 m (pc + 3) ls rest)) : W p l e R s m args below meth c H locs cells slots Q (F0 m pc ls (.int x :: .ref (ad h) :: rest)) :=
  w_put F hI hP hS hh hC rfl Wi_wsX80 tyX8 tyX8_ok nmX8 6 (by decide) mw_501 rfl rfl rfl hl hu hdg kk
end FR
theorem ydX0_init : yX0_init.cls ≠ "java/lang/invoke/MethodHandle" ∧ yX0_init.cls ≠ "java/lang/invoke/VarHandle" ∧ (parseMethodDescriptor yX0_init.desc).map (fun d => d.parameters.length) = some 0 := by decide +kernel
theorem ydX0_record : yX0_record.cls ≠ "java/lang/invoke/MethodHandle" ∧ yX0_record.cls ≠ "java/lang/invoke/VarHandle" ∧ (parseMethodDescriptor yX0_record.desc).map (fun d => d.parameters.length) = some 1 := by decide +kernel
theorem ydX0_stepBack : yX0_stepBack.cls ≠ "java/lang/invoke/MethodHandle" ∧ yX0_stepBack.cls ≠ "java/lang/invoke/VarHandle" ∧ (parseMethodDescriptor yX0_stepBack.desc).map (fun d => d.parameters.length) = some 1 := by decide +kernel
theorem ydX1_init : yX1_init.cls ≠ "java/lang/invoke/MethodHandle" ∧ yX1_init.cls ≠ "java/lang/invoke/VarHandle" ∧ (parseMethodDescriptor yX1_init.desc).map (fun d => d.parameters.length) = some 0 := by decide +kernel
theorem ydX1_copyFrom : yX1_copyFrom.cls ≠ "java/lang/invoke/MethodHandle" ∧ yX1_copyFrom.cls ≠ "java/lang/invoke/VarHandle" ∧ (parseMethodDescriptor yX1_copyFrom.desc).map (fun d => d.parameters.length) = some 1 := by decide +kernel
theorem ydX1_allows : yX1_allows.cls ≠ "java/lang/invoke/MethodHandle" ∧ yX1_allows.cls ≠ "java/lang/invoke/VarHandle" ∧ (parseMethodDescriptor yX1_allows.desc).map (fun d => d.parameters.length) = some 1 := by decide +kernel
theorem ydX1_begin : yX1_begin.cls ≠ "java/lang/invoke/MethodHandle" ∧ yX1_begin.cls ≠ "java/lang/invoke/VarHandle" ∧ (parseMethodDescriptor yX1_begin.desc).map (fun d => d.parameters.length) = some 1 := by decide +kernel
theorem ydX1_vanish : yX1_vanish.cls ≠ "java/lang/invoke/MethodHandle" ∧ yX1_vanish.cls ≠ "java/lang/invoke/VarHandle" ∧ (parseMethodDescriptor yX1_vanish.desc).map (fun d => d.parameters.length) = some 0 := by decide +kernel
theorem ydX1_rolls : yX1_rolls.cls ≠ "java/lang/invoke/MethodHandle" ∧ yX1_rolls.cls ≠ "java/lang/invoke/VarHandle" ∧ (parseMethodDescriptor yX1_rolls.desc).map (fun d => d.parameters.length) = some 0 := by decide +kernel
theorem ydX1_takeTap : yX1_takeTap.cls ≠ "java/lang/invoke/MethodHandle" ∧ yX1_takeTap.cls ≠ "java/lang/invoke/VarHandle" ∧ (parseMethodDescriptor yX1_takeTap.desc).map (fun d => d.parameters.length) = some 2 := by decide +kernel
theorem ydX1_takePush : yX1_takePush.cls ≠ "java/lang/invoke/MethodHandle" ∧ yX1_takePush.cls ≠ "java/lang/invoke/VarHandle" ∧ (parseMethodDescriptor yX1_takePush.desc).map (fun d => d.parameters.length) = some 0 := by decide +kernel
theorem ydX1_rollOver : yX1_rollOver.cls ≠ "java/lang/invoke/MethodHandle" ∧ yX1_rollOver.cls ≠ "java/lang/invoke/VarHandle" ∧ (parseMethodDescriptor yX1_rollOver.desc).map (fun d => d.parameters.length) = some 3 := by decide +kernel
theorem ydX1_meet : yX1_meet.cls ≠ "java/lang/invoke/MethodHandle" ∧ yX1_meet.cls ≠ "java/lang/invoke/VarHandle" ∧ (parseMethodDescriptor yX1_meet.desc).map (fun d => d.parameters.length) = some 3 := by decide +kernel
theorem ydX1_goBehind : yX1_goBehind.cls ≠ "java/lang/invoke/MethodHandle" ∧ yX1_goBehind.cls ≠ "java/lang/invoke/VarHandle" ∧ (parseMethodDescriptor yX1_goBehind.desc).map (fun d => d.parameters.length) = some 2 := by decide +kernel
theorem ydX1_dropBy : yX1_dropBy.cls ≠ "java/lang/invoke/MethodHandle" ∧ yX1_dropBy.cls ≠ "java/lang/invoke/VarHandle" ∧ (parseMethodDescriptor yX1_dropBy.desc).map (fun d => d.parameters.length) = some 2 := by decide +kernel
theorem ydX1_rollAlong : yX1_rollAlong.cls ≠ "java/lang/invoke/MethodHandle" ∧ yX1_rollAlong.cls ≠ "java/lang/invoke/VarHandle" ∧ (parseMethodDescriptor yX1_rollAlong.desc).map (fun d => d.parameters.length) = some 2 := by decide +kernel
theorem ydX1_rightItselfBy : yX1_rightItselfBy.cls ≠ "java/lang/invoke/MethodHandle" ∧ yX1_rightItselfBy.cls ≠ "java/lang/invoke/VarHandle" ∧ (parseMethodDescriptor yX1_rightItselfBy.desc).map (fun d => d.parameters.length) = some 1 := by decide +kernel
theorem ydX1_speedUpBy : yX1_speedUpBy.cls ≠ "java/lang/invoke/MethodHandle" ∧ yX1_speedUpBy.cls ≠ "java/lang/invoke/VarHandle" ∧ (parseMethodDescriptor yX1_speedUpBy.desc).map (fun d => d.parameters.length) = some 1 := by decide +kernel
theorem ydX1_shakeBy : yX1_shakeBy.cls ≠ "java/lang/invoke/MethodHandle" ∧ yX1_shakeBy.cls ≠ "java/lang/invoke/VarHandle" ∧ (parseMethodDescriptor yX1_shakeBy.desc).map (fun d => d.parameters.length) = some 1 := by decide +kernel
theorem ydX2_init : yX2_init.cls ≠ "java/lang/invoke/MethodHandle" ∧ yX2_init.cls ≠ "java/lang/invoke/VarHandle" ∧ (parseMethodDescriptor yX2_init.desc).map (fun d => d.parameters.length) = some 0 := by decide +kernel
theorem ydX2_codeIn : yX2_codeIn.cls ≠ "java/lang/invoke/MethodHandle" ∧ yX2_codeIn.cls ≠ "java/lang/invoke/VarHandle" ∧ (parseMethodDescriptor yX2_codeIn.desc).map (fun d => d.parameters.length) = some 2 := by decide +kernel
theorem ydX2_charactersIn : yX2_charactersIn.cls ≠ "java/lang/invoke/MethodHandle" ∧ yX2_charactersIn.cls ≠ "java/lang/invoke/VarHandle" ∧ (parseMethodDescriptor yX2_charactersIn.desc).map (fun d => d.parameters.length) = some 1 := by decide +kernel
theorem ydX2_append : yX2_append.cls ≠ "java/lang/invoke/MethodHandle" ∧ yX2_append.cls ≠ "java/lang/invoke/VarHandle" ∧ (parseMethodDescriptor yX2_append.desc).map (fun d => d.parameters.length) = some 2 := by decide +kernel
theorem ydX2_empty : yX2_empty.cls ≠ "java/lang/invoke/MethodHandle" ∧ yX2_empty.cls ≠ "java/lang/invoke/VarHandle" ∧ (parseMethodDescriptor yX2_empty.desc).map (fun d => d.parameters.length) = some 0 := by decide +kernel
theorem ydX2_firstFault : yX2_firstFault.cls ≠ "java/lang/invoke/MethodHandle" ∧ yX2_firstFault.cls ≠ "java/lang/invoke/VarHandle" ∧ (parseMethodDescriptor yX2_firstFault.desc).map (fun d => d.parameters.length) = some 0 := by decide +kernel
theorem ydX2_startReading : yX2_startReading.cls ≠ "java/lang/invoke/MethodHandle" ∧ yX2_startReading.cls ≠ "java/lang/invoke/VarHandle" ∧ (parseMethodDescriptor yX2_startReading.desc).map (fun d => d.parameters.length) = some 0 := by decide +kernel
theorem ydX2_readOrder : yX2_readOrder.cls ≠ "java/lang/invoke/MethodHandle" ∧ yX2_readOrder.cls ≠ "java/lang/invoke/VarHandle" ∧ (parseMethodDescriptor yX2_readOrder.desc).map (fun d => d.parameters.length) = some 0 := by decide +kernel
theorem ydX2_skipSeparator : yX2_skipSeparator.cls ≠ "java/lang/invoke/MethodHandle" ∧ yX2_skipSeparator.cls ≠ "java/lang/invoke/VarHandle" ∧ (parseMethodDescriptor yX2_skipSeparator.desc).map (fun d => d.parameters.length) = some 0 := by decide +kernel
theorem ydX2_readDigit : yX2_readDigit.cls ≠ "java/lang/invoke/MethodHandle" ∧ yX2_readDigit.cls ≠ "java/lang/invoke/VarHandle" ∧ (parseMethodDescriptor yX2_readDigit.desc).map (fun d => d.parameters.length) = some 0 := by decide +kernel
theorem ydX2_readNumber : yX2_readNumber.cls ≠ "java/lang/invoke/MethodHandle" ∧ yX2_readNumber.cls ≠ "java/lang/invoke/VarHandle" ∧ (parseMethodDescriptor yX2_readNumber.desc).map (fun d => d.parameters.length) = some 0 := by decide +kernel
theorem ydX2_codeHere : yX2_codeHere.cls ≠ "java/lang/invoke/MethodHandle" ∧ yX2_codeHere.cls ≠ "java/lang/invoke/VarHandle" ∧ (parseMethodDescriptor yX2_codeHere.desc).map (fun d => d.parameters.length) = some 0 := by decide +kernel
theorem ydX2_isDigit : yX2_isDigit.cls ≠ "java/lang/invoke/MethodHandle" ∧ yX2_isDigit.cls ≠ "java/lang/invoke/VarHandle" ∧ (parseMethodDescriptor yX2_isDigit.desc).map (fun d => d.parameters.length) = some 1 := by decide +kernel
theorem ydX3_init : yX3_init.cls ≠ "java/lang/invoke/MethodHandle" ∧ yX3_init.cls ≠ "java/lang/invoke/VarHandle" ∧ (parseMethodDescriptor yX3_init.desc).map (fun d => d.parameters.length) = some 0 := by decide +kernel
theorem ydX3_copyFrom : yX3_copyFrom.cls ≠ "java/lang/invoke/MethodHandle" ∧ yX3_copyFrom.cls ≠ "java/lang/invoke/VarHandle" ∧ (parseMethodDescriptor yX3_copyFrom.desc).map (fun d => d.parameters.length) = some 1 := by decide +kernel
theorem ydX3_has : yX3_has.cls ≠ "java/lang/invoke/MethodHandle" ∧ yX3_has.cls ≠ "java/lang/invoke/VarHandle" ∧ (parseMethodDescriptor yX3_has.desc).map (fun d => d.parameters.length) = some 1 := by decide +kernel
theorem ydX3_entry : yX3_entry.cls ≠ "java/lang/invoke/MethodHandle" ∧ yX3_entry.cls ≠ "java/lang/invoke/VarHandle" ∧ (parseMethodDescriptor yX3_entry.desc).map (fun d => d.parameters.length) = some 2 := by decide +kernel
theorem ydX3_add : yX3_add.cls ≠ "java/lang/invoke/MethodHandle" ∧ yX3_add.cls ≠ "java/lang/invoke/VarHandle" ∧ (parseMethodDescriptor yX3_add.desc).map (fun d => d.parameters.length) = some 1 := by decide +kernel
theorem ydX4_init : yX4_init.cls ≠ "java/lang/invoke/MethodHandle" ∧ yX4_init.cls ≠ "java/lang/invoke/VarHandle" ∧ (parseMethodDescriptor yX4_init.desc).map (fun d => d.parameters.length) = some 0 := by decide +kernel
theorem ydX4_copyFrom : yX4_copyFrom.cls ≠ "java/lang/invoke/MethodHandle" ∧ yX4_copyFrom.cls ≠ "java/lang/invoke/VarHandle" ∧ (parseMethodDescriptor yX4_copyFrom.desc).map (fun d => d.parameters.length) = some 1 := by decide +kernel
theorem ydX4_allows : yX4_allows.cls ≠ "java/lang/invoke/MethodHandle" ∧ yX4_allows.cls ≠ "java/lang/invoke/VarHandle" ∧ (parseMethodDescriptor yX4_allows.desc).map (fun d => d.parameters.length) = some 2 := by decide +kernel
theorem ydX4_value : yX4_value.cls ≠ "java/lang/invoke/MethodHandle" ∧ yX4_value.cls ≠ "java/lang/invoke/VarHandle" ∧ (parseMethodDescriptor yX4_value.desc).map (fun d => d.parameters.length) = some 1 := by decide +kernel
theorem ydX4_change : yX4_change.cls ≠ "java/lang/invoke/MethodHandle" ∧ yX4_change.cls ≠ "java/lang/invoke/VarHandle" ∧ (parseMethodDescriptor yX4_change.desc).map (fun d => d.parameters.length) = some 2 := by decide +kernel
theorem ydX5_init : yX5_init.cls ≠ "java/lang/invoke/MethodHandle" ∧ yX5_init.cls ≠ "java/lang/invoke/VarHandle" ∧ (parseMethodDescriptor yX5_init.desc).map (fun d => d.parameters.length) = some 0 := by decide +kernel
theorem ydX5_copyFrom : yX5_copyFrom.cls ≠ "java/lang/invoke/MethodHandle" ∧ yX5_copyFrom.cls ≠ "java/lang/invoke/VarHandle" ∧ (parseMethodDescriptor yX5_copyFrom.desc).map (fun d => d.parameters.length) = some 1 := by decide +kernel
theorem ydX5_has : yX5_has.cls ≠ "java/lang/invoke/MethodHandle" ∧ yX5_has.cls ≠ "java/lang/invoke/VarHandle" ∧ (parseMethodDescriptor yX5_has.desc).map (fun d => d.parameters.length) = some 1 := by decide +kernel
theorem ydX5_allows : yX5_allows.cls ≠ "java/lang/invoke/MethodHandle" ∧ yX5_allows.cls ≠ "java/lang/invoke/VarHandle" ∧ (parseMethodDescriptor yX5_allows.desc).map (fun d => d.parameters.length) = some 2 := by decide +kernel
theorem ydX5_entry : yX5_entry.cls ≠ "java/lang/invoke/MethodHandle" ∧ yX5_entry.cls ≠ "java/lang/invoke/VarHandle" ∧ (parseMethodDescriptor yX5_entry.desc).map (fun d => d.parameters.length) = some 2 := by decide +kernel
theorem ydX5_insert : yX5_insert.cls ≠ "java/lang/invoke/MethodHandle" ∧ yX5_insert.cls ≠ "java/lang/invoke/VarHandle" ∧ (parseMethodDescriptor yX5_insert.desc).map (fun d => d.parameters.length) = some 3 := by decide +kernel
theorem ydX5_remove : yX5_remove.cls ≠ "java/lang/invoke/MethodHandle" ∧ yX5_remove.cls ≠ "java/lang/invoke/VarHandle" ∧ (parseMethodDescriptor yX5_remove.desc).map (fun d => d.parameters.length) = some 1 := by decide +kernel
theorem ydX5_noteEnd : yX5_noteEnd.cls ≠ "java/lang/invoke/MethodHandle" ∧ yX5_noteEnd.cls ≠ "java/lang/invoke/VarHandle" ∧ (parseMethodDescriptor yX5_noteEnd.desc).map (fun d => d.parameters.length) = some 2 := by decide +kernel
theorem ydX5_sumOf : yX5_sumOf.cls ≠ "java/lang/invoke/MethodHandle" ∧ yX5_sumOf.cls ≠ "java/lang/invoke/VarHandle" ∧ (parseMethodDescriptor yX5_sumOf.desc).map (fun d => d.parameters.length) = some 1 := by decide +kernel
theorem ydX5_narrowestGate : yX5_narrowestGate.cls ≠ "java/lang/invoke/MethodHandle" ∧ yX5_narrowestGate.cls ≠ "java/lang/invoke/VarHandle" ∧ (parseMethodDescriptor yX5_narrowestGate.desc).map (fun d => d.parameters.length) = some 0 := by decide +kernel
theorem ydX6_init : yX6_init.cls ≠ "java/lang/invoke/MethodHandle" ∧ yX6_init.cls ≠ "java/lang/invoke/VarHandle" ∧ (parseMethodDescriptor yX6_init.desc).map (fun d => d.parameters.length) = some 0 := by decide +kernel
theorem ydX6_copyFrom : yX6_copyFrom.cls ≠ "java/lang/invoke/MethodHandle" ∧ yX6_copyFrom.cls ≠ "java/lang/invoke/VarHandle" ∧ (parseMethodDescriptor yX6_copyFrom.desc).map (fun d => d.parameters.length) = some 1 := by decide +kernel
theorem ydX6_partError : yX6_partError.cls ≠ "java/lang/invoke/MethodHandle" ∧ yX6_partError.cls ≠ "java/lang/invoke/VarHandle" ∧ (parseMethodDescriptor yX6_partError.desc).map (fun d => d.parameters.length) = some 3 := by decide +kernel
theorem ydX6_addPart : yX6_addPart.cls ≠ "java/lang/invoke/MethodHandle" ∧ yX6_addPart.cls ≠ "java/lang/invoke/VarHandle" ∧ (parseMethodDescriptor yX6_addPart.desc).map (fun d => d.parameters.length) = some 3 := by decide +kernel
theorem ydX6_removePart : yX6_removePart.cls ≠ "java/lang/invoke/MethodHandle" ∧ yX6_removePart.cls ≠ "java/lang/invoke/VarHandle" ∧ (parseMethodDescriptor yX6_removePart.desc).map (fun d => d.parameters.length) = some 1 := by decide +kernel
theorem ydX6_beginRun : yX6_beginRun.cls ≠ "java/lang/invoke/MethodHandle" ∧ yX6_beginRun.cls ≠ "java/lang/invoke/VarHandle" ∧ (parseMethodDescriptor yX6_beginRun.desc).map (fun d => d.parameters.length) = some 1 := by decide +kernel
theorem ydX6_rollError : yX6_rollError.cls ≠ "java/lang/invoke/MethodHandle" ∧ yX6_rollError.cls ≠ "java/lang/invoke/VarHandle" ∧ (parseMethodDescriptor yX6_rollError.desc).map (fun d => d.parameters.length) = some 1 := by decide +kernel
theorem ydX6_rollOver : yX6_rollOver.cls ≠ "java/lang/invoke/MethodHandle" ∧ yX6_rollOver.cls ≠ "java/lang/invoke/VarHandle" ∧ (parseMethodDescriptor yX6_rollOver.desc).map (fun d => d.parameters.length) = some 1 := by decide +kernel
theorem ydX6_noteEnd : yX6_noteEnd.cls ≠ "java/lang/invoke/MethodHandle" ∧ yX6_noteEnd.cls ≠ "java/lang/invoke/VarHandle" ∧ (parseMethodDescriptor yX6_noteEnd.desc).map (fun d => d.parameters.length) = some 0 := by decide +kernel
theorem ydX6_tapError : yX6_tapError.cls ≠ "java/lang/invoke/MethodHandle" ∧ yX6_tapError.cls ≠ "java/lang/invoke/VarHandle" ∧ (parseMethodDescriptor yX6_tapError.desc).map (fun d => d.parameters.length) = some 1 := by decide +kernel
theorem ydX6_tapFrom : yX6_tapFrom.cls ≠ "java/lang/invoke/MethodHandle" ∧ yX6_tapFrom.cls ≠ "java/lang/invoke/VarHandle" ∧ (parseMethodDescriptor yX6_tapFrom.desc).map (fun d => d.parameters.length) = some 1 := by decide +kernel
theorem ydX6_pushError : yX6_pushError.cls ≠ "java/lang/invoke/MethodHandle" ∧ yX6_pushError.cls ≠ "java/lang/invoke/VarHandle" ∧ (parseMethodDescriptor yX6_pushError.desc).map (fun d => d.parameters.length) = some 0 := by decide +kernel
theorem ydX6_pushOn : yX6_pushOn.cls ≠ "java/lang/invoke/MethodHandle" ∧ yX6_pushOn.cls ≠ "java/lang/invoke/VarHandle" ∧ (parseMethodDescriptor yX6_pushOn.desc).map (fun d => d.parameters.length) = some 0 := by decide +kernel
theorem ydX6_number : yX6_number.cls ≠ "java/lang/invoke/MethodHandle" ∧ yX6_number.cls ≠ "java/lang/invoke/VarHandle" ∧ (parseMethodDescriptor yX6_number.desc).map (fun d => d.parameters.length) = some 1 := by decide +kernel
theorem ydX7_init : yX7_init.cls ≠ "java/lang/invoke/MethodHandle" ∧ yX7_init.cls ≠ "java/lang/invoke/VarHandle" ∧ (parseMethodDescriptor yX7_init.desc).map (fun d => d.parameters.length) = some 0 := by decide +kernel
theorem ydX7_set : yX7_set.cls ≠ "java/lang/invoke/MethodHandle" ∧ yX7_set.cls ≠ "java/lang/invoke/VarHandle" ∧ (parseMethodDescriptor yX7_set.desc).map (fun d => d.parameters.length) = some 2 := by decide +kernel
theorem ydX7_part : yX7_part.cls ≠ "java/lang/invoke/MethodHandle" ∧ yX7_part.cls ≠ "java/lang/invoke/VarHandle" ∧ (parseMethodDescriptor yX7_part.desc).map (fun d => d.parameters.length) = some 3 := by decide +kernel
theorem ydX7_takeAway : yX7_takeAway.cls ≠ "java/lang/invoke/MethodHandle" ∧ yX7_takeAway.cls ≠ "java/lang/invoke/VarHandle" ∧ (parseMethodDescriptor yX7_takeAway.desc).map (fun d => d.parameters.length) = some 1 := by decide +kernel
theorem ydX7_hoop : yX7_hoop.cls ≠ "java/lang/invoke/MethodHandle" ∧ yX7_hoop.cls ≠ "java/lang/invoke/VarHandle" ∧ (parseMethodDescriptor yX7_hoop.desc).map (fun d => d.parameters.length) = some 1 := by decide +kernel
theorem ydX7_roll : yX7_roll.cls ≠ "java/lang/invoke/MethodHandle" ∧ yX7_roll.cls ≠ "java/lang/invoke/VarHandle" ∧ (parseMethodDescriptor yX7_roll.desc).map (fun d => d.parameters.length) = some 1 := by decide +kernel
theorem ydX7_tap : yX7_tap.cls ≠ "java/lang/invoke/MethodHandle" ∧ yX7_tap.cls ≠ "java/lang/invoke/VarHandle" ∧ (parseMethodDescriptor yX7_tap.desc).map (fun d => d.parameters.length) = some 1 := by decide +kernel
theorem ydX7_push : yX7_push.cls ≠ "java/lang/invoke/MethodHandle" ∧ yX7_push.cls ≠ "java/lang/invoke/VarHandle" ∧ (parseMethodDescriptor yX7_push.desc).map (fun d => d.parameters.length) = some 0 := by decide +kernel
theorem ydX7_of : yX7_of.cls ≠ "java/lang/invoke/MethodHandle" ∧ yX7_of.cls ≠ "java/lang/invoke/VarHandle" ∧ (parseMethodDescriptor yX7_of.desc).map (fun d => d.parameters.length) = some 2 := by decide +kernel
theorem ydX7_ofHoop : yX7_ofHoop.cls ≠ "java/lang/invoke/MethodHandle" ∧ yX7_ofHoop.cls ≠ "java/lang/invoke/VarHandle" ∧ (parseMethodDescriptor yX7_ofHoop.desc).map (fun d => d.parameters.length) = some 1 := by decide +kernel
theorem ydX7_run : yX7_run.cls ≠ "java/lang/invoke/MethodHandle" ∧ yX7_run.cls ≠ "java/lang/invoke/VarHandle" ∧ (parseMethodDescriptor yX7_run.desc).map (fun d => d.parameters.length) = some 2 := by decide +kernel
theorem ydX7_count : yX7_count.cls ≠ "java/lang/invoke/MethodHandle" ∧ yX7_count.cls ≠ "java/lang/invoke/VarHandle" ∧ (parseMethodDescriptor yX7_count.desc).map (fun d => d.parameters.length) = some 1 := by decide +kernel
theorem ydX7_aboutHoop : yX7_aboutHoop.cls ≠ "java/lang/invoke/MethodHandle" ∧ yX7_aboutHoop.cls ≠ "java/lang/invoke/VarHandle" ∧ (parseMethodDescriptor yX7_aboutHoop.desc).map (fun d => d.parameters.length) = some 2 := by decide +kernel
theorem ydX7_ifRolled : yX7_ifRolled.cls ≠ "java/lang/invoke/MethodHandle" ∧ yX7_ifRolled.cls ≠ "java/lang/invoke/VarHandle" ∧ (parseMethodDescriptor yX7_ifRolled.desc).map (fun d => d.parameters.length) = some 1 := by decide +kernel
theorem ydX7_widest : yX7_widest.cls ≠ "java/lang/invoke/MethodHandle" ∧ yX7_widest.cls ≠ "java/lang/invoke/VarHandle" ∧ (parseMethodDescriptor yX7_widest.desc).map (fun d => d.parameters.length) = some 0 := by decide +kernel
theorem ydX7_saves : yX7_saves.cls ≠ "java/lang/invoke/MethodHandle" ∧ yX7_saves.cls ≠ "java/lang/invoke/VarHandle" ∧ (parseMethodDescriptor yX7_saves.desc).map (fun d => d.parameters.length) = some 1 := by decide +kernel
theorem ydX7_passesAfterTaps : yX7_passesAfterTaps.cls ≠ "java/lang/invoke/MethodHandle" ∧ yX7_passesAfterTaps.cls ≠ "java/lang/invoke/VarHandle" ∧ (parseMethodDescriptor yX7_passesAfterTaps.desc).map (fun d => d.parameters.length) = some 2 := by decide +kernel
theorem ydX7_traced : yX7_traced.cls ≠ "java/lang/invoke/MethodHandle" ∧ yX7_traced.cls ≠ "java/lang/invoke/VarHandle" ∧ (parseMethodDescriptor yX7_traced.desc).map (fun d => d.parameters.length) = some 3 := by decide +kernel
theorem ydX7_put : yX7_put.cls ≠ "java/lang/invoke/MethodHandle" ∧ yX7_put.cls ≠ "java/lang/invoke/VarHandle" ∧ (parseMethodDescriptor yX7_put.desc).map (fun d => d.parameters.length) = some 1 := by decide +kernel
theorem ydX7_wipe : yX7_wipe.cls ≠ "java/lang/invoke/MethodHandle" ∧ yX7_wipe.cls ≠ "java/lang/invoke/VarHandle" ∧ (parseMethodDescriptor yX7_wipe.desc).map (fun d => d.parameters.length) = some 0 := by decide +kernel
theorem ydX7_fault : yX7_fault.cls ≠ "java/lang/invoke/MethodHandle" ∧ yX7_fault.cls ≠ "java/lang/invoke/VarHandle" ∧ (parseMethodDescriptor yX7_fault.desc).map (fun d => d.parameters.length) = some 0 := by decide +kernel
theorem ydX7_carryOut : yX7_carryOut.cls ≠ "java/lang/invoke/MethodHandle" ∧ yX7_carryOut.cls ≠ "java/lang/invoke/VarHandle" ∧ (parseMethodDescriptor yX7_carryOut.desc).map (fun d => d.parameters.length) = some 0 := by decide +kernel
theorem ydX7_orderError : yX7_orderError.cls ≠ "java/lang/invoke/MethodHandle" ∧ yX7_orderError.cls ≠ "java/lang/invoke/VarHandle" ∧ (parseMethodDescriptor yX7_orderError.desc).map (fun d => d.parameters.length) = some 2 := by decide +kernel
theorem ydX7_carryOrder : yX7_carryOrder.cls ≠ "java/lang/invoke/MethodHandle" ∧ yX7_carryOrder.cls ≠ "java/lang/invoke/VarHandle" ∧ (parseMethodDescriptor yX7_carryOrder.desc).map (fun d => d.parameters.length) = some 2 := by decide +kernel
theorem ydX7_undo : yX7_undo.cls ≠ "java/lang/invoke/MethodHandle" ∧ yX7_undo.cls ≠ "java/lang/invoke/VarHandle" ∧ (parseMethodDescriptor yX7_undo.desc).map (fun d => d.parameters.length) = some 0 := by decide +kernel
theorem ydX7_save : yX7_save.cls ≠ "java/lang/invoke/MethodHandle" ∧ yX7_save.cls ≠ "java/lang/invoke/VarHandle" ∧ (parseMethodDescriptor yX7_save.desc).map (fun d => d.parameters.length) = some 1 := by decide +kernel
theorem ydX7_restore : yX7_restore.cls ≠ "java/lang/invoke/MethodHandle" ∧ yX7_restore.cls ≠ "java/lang/invoke/VarHandle" ∧ (parseMethodDescriptor yX7_restore.desc).map (fun d => d.parameters.length) = some 1 := by decide +kernel
theorem ydX8_init : yX8_init.cls ≠ "java/lang/invoke/MethodHandle" ∧ yX8_init.cls ≠ "java/lang/invoke/VarHandle" ∧ (parseMethodDescriptor yX8_init.desc).map (fun d => d.parameters.length) = some 0 := by decide +kernel
theorem ydX8_in : yX8_in.cls ≠ "java/lang/invoke/MethodHandle" ∧ yX8_in.cls ≠ "java/lang/invoke/VarHandle" ∧ (parseMethodDescriptor yX8_in.desc).map (fun d => d.parameters.length) = some 3 := by decide +kernel
theorem ydX8_less : yX8_less.cls ≠ "java/lang/invoke/MethodHandle" ∧ yX8_less.cls ≠ "java/lang/invoke/VarHandle" ∧ (parseMethodDescriptor yX8_less.desc).map (fun d => d.parameters.length) = some 2 := by decide +kernel
theorem ydX8_size : yX8_size.cls ≠ "java/lang/invoke/MethodHandle" ∧ yX8_size.cls ≠ "java/lang/invoke/VarHandle" ∧ (parseMethodDescriptor yX8_size.desc).map (fun d => d.parameters.length) = some 1 := by decide +kernel
theorem ydX8_at : yX8_at.cls ≠ "java/lang/invoke/MethodHandle" ∧ yX8_at.cls ≠ "java/lang/invoke/VarHandle" ∧ (parseMethodDescriptor yX8_at.desc).map (fun d => d.parameters.length) = some 2 := by decide +kernel
theorem ydX8_isPart : yX8_isPart.cls ≠ "java/lang/invoke/MethodHandle" ∧ yX8_isPart.cls ≠ "java/lang/invoke/VarHandle" ∧ (parseMethodDescriptor yX8_isPart.desc).map (fun d => d.parameters.length) = some 1 := by decide +kernel
theorem ydX8_remembers : yX8_remembers.cls ≠ "java/lang/invoke/MethodHandle" ∧ yX8_remembers.cls ≠ "java/lang/invoke/VarHandle" ∧ (parseMethodDescriptor yX8_remembers.desc).map (fun d => d.parameters.length) = some 0 := by decide +kernel
theorem ydX8_copies : yX8_copies.cls ≠ "java/lang/invoke/MethodHandle" ∧ yX8_copies.cls ≠ "java/lang/invoke/VarHandle" ∧ (parseMethodDescriptor yX8_copies.desc).map (fun d => d.parameters.length) = some 0 := by decide +kernel
theorem ydX8_drops : yX8_drops.cls ≠ "java/lang/invoke/MethodHandle" ∧ yX8_drops.cls ≠ "java/lang/invoke/VarHandle" ∧ (parseMethodDescriptor yX8_drops.desc).map (fun d => d.parameters.length) = some 2 := by decide +kernel
theorem ydX8_lands : yX8_lands.cls ≠ "java/lang/invoke/MethodHandle" ∧ yX8_lands.cls ≠ "java/lang/invoke/VarHandle" ∧ (parseMethodDescriptor yX8_lands.desc).map (fun d => d.parameters.length) = some 2 := by decide +kernel
theorem ydX8_passesPart : yX8_passesPart.cls ≠ "java/lang/invoke/MethodHandle" ∧ yX8_passesPart.cls ≠ "java/lang/invoke/VarHandle" ∧ (parseMethodDescriptor yX8_passesPart.desc).map (fun d => d.parameters.length) = some 1 := by decide +kernel
theorem ydX8_lists : yX8_lists.cls ≠ "java/lang/invoke/MethodHandle" ∧ yX8_lists.cls ≠ "java/lang/invoke/VarHandle" ∧ (parseMethodDescriptor yX8_lists.desc).map (fun d => d.parameters.length) = some 1 := by decide +kernel
theorem ydX8_ends : yX8_ends.cls ≠ "java/lang/invoke/MethodHandle" ∧ yX8_ends.cls ≠ "java/lang/invoke/VarHandle" ∧ (parseMethodDescriptor yX8_ends.desc).map (fun d => d.parameters.length) = some 2 := by decide +kernel
theorem ydX8_rolls : yX8_rolls.cls ≠ "java/lang/invoke/MethodHandle" ∧ yX8_rolls.cls ≠ "java/lang/invoke/VarHandle" ∧ (parseMethodDescriptor yX8_rolls.desc).map (fun d => d.parameters.length) = some 2 := by decide +kernel
theorem ydX8_begins : yX8_begins.cls ≠ "java/lang/invoke/MethodHandle" ∧ yX8_begins.cls ≠ "java/lang/invoke/VarHandle" ∧ (parseMethodDescriptor yX8_begins.desc).map (fun d => d.parameters.length) = some 2 := by decide +kernel
theorem ydX8_taps : yX8_taps.cls ≠ "java/lang/invoke/MethodHandle" ∧ yX8_taps.cls ≠ "java/lang/invoke/VarHandle" ∧ (parseMethodDescriptor yX8_taps.desc).map (fun d => d.parameters.length) = some 2 := by decide +kernel
theorem ydX8_isRolling : yX8_isRolling.cls ≠ "java/lang/invoke/MethodHandle" ∧ yX8_isRolling.cls ≠ "java/lang/invoke/VarHandle" ∧ (parseMethodDescriptor yX8_isRolling.desc).map (fun d => d.parameters.length) = some 0 := by decide +kernel
theorem ydX8_canSet : yX8_canSet.cls ≠ "java/lang/invoke/MethodHandle" ∧ yX8_canSet.cls ≠ "java/lang/invoke/VarHandle" ∧ (parseMethodDescriptor yX8_canSet.desc).map (fun d => d.parameters.length) = some 2 := by decide +kernel
theorem ydX8_set : yX8_set.cls ≠ "java/lang/invoke/MethodHandle" ∧ yX8_set.cls ≠ "java/lang/invoke/VarHandle" ∧ (parseMethodDescriptor yX8_set.desc).map (fun d => d.parameters.length) = some 2 := by decide +kernel
theorem ydX8_whyNotPart : yX8_whyNotPart.cls ≠ "java/lang/invoke/MethodHandle" ∧ yX8_whyNotPart.cls ≠ "java/lang/invoke/VarHandle" ∧ (parseMethodDescriptor yX8_whyNotPart.desc).map (fun d => d.parameters.length) = some 3 := by decide +kernel
theorem ydX8_comes : yX8_comes.cls ≠ "java/lang/invoke/MethodHandle" ∧ yX8_comes.cls ≠ "java/lang/invoke/VarHandle" ∧ (parseMethodDescriptor yX8_comes.desc).map (fun d => d.parameters.length) = some 3 := by decide +kernel
theorem ydX8_part : yX8_part.cls ≠ "java/lang/invoke/MethodHandle" ∧ yX8_part.cls ≠ "java/lang/invoke/VarHandle" ∧ (parseMethodDescriptor yX8_part.desc).map (fun d => d.parameters.length) = some 3 := by decide +kernel
theorem ydX8_takeAway : yX8_takeAway.cls ≠ "java/lang/invoke/MethodHandle" ∧ yX8_takeAway.cls ≠ "java/lang/invoke/VarHandle" ∧ (parseMethodDescriptor yX8_takeAway.desc).map (fun d => d.parameters.length) = some 1 := by decide +kernel
theorem ydX8_hoop : yX8_hoop.cls ≠ "java/lang/invoke/MethodHandle" ∧ yX8_hoop.cls ≠ "java/lang/invoke/VarHandle" ∧ (parseMethodDescriptor yX8_hoop.desc).map (fun d => d.parameters.length) = some 1 := by decide +kernel
theorem ydX8_whyNotRoll : yX8_whyNotRoll.cls ≠ "java/lang/invoke/MethodHandle" ∧ yX8_whyNotRoll.cls ≠ "java/lang/invoke/VarHandle" ∧ (parseMethodDescriptor yX8_whyNotRoll.desc).map (fun d => d.parameters.length) = some 1 := by decide +kernel
theorem ydX8_roll : yX8_roll.cls ≠ "java/lang/invoke/MethodHandle" ∧ yX8_roll.cls ≠ "java/lang/invoke/VarHandle" ∧ (parseMethodDescriptor yX8_roll.desc).map (fun d => d.parameters.length) = some 1 := by decide +kernel
theorem ydX8_tap : yX8_tap.cls ≠ "java/lang/invoke/MethodHandle" ∧ yX8_tap.cls ≠ "java/lang/invoke/VarHandle" ∧ (parseMethodDescriptor yX8_tap.desc).map (fun d => d.parameters.length) = some 1 := by decide +kernel
theorem ydX8_pushes : yX8_pushes.cls ≠ "java/lang/invoke/MethodHandle" ∧ yX8_pushes.cls ≠ "java/lang/invoke/VarHandle" ∧ (parseMethodDescriptor yX8_pushes.desc).map (fun d => d.parameters.length) = some 0 := by decide +kernel
theorem ydX8_push : yX8_push.cls ≠ "java/lang/invoke/MethodHandle" ∧ yX8_push.cls ≠ "java/lang/invoke/VarHandle" ∧ (parseMethodDescriptor yX8_push.desc).map (fun d => d.parameters.length) = some 0 := by decide +kernel
theorem ydX8_of : yX8_of.cls ≠ "java/lang/invoke/MethodHandle" ∧ yX8_of.cls ≠ "java/lang/invoke/VarHandle" ∧ (parseMethodDescriptor yX8_of.desc).map (fun d => d.parameters.length) = some 2 := by decide +kernel
theorem ydX8_ofHoop : yX8_ofHoop.cls ≠ "java/lang/invoke/MethodHandle" ∧ yX8_ofHoop.cls ≠ "java/lang/invoke/VarHandle" ∧ (parseMethodDescriptor yX8_ofHoop.desc).map (fun d => d.parameters.length) = some 1 := by decide +kernel
theorem ydX8_run : yX8_run.cls ≠ "java/lang/invoke/MethodHandle" ∧ yX8_run.cls ≠ "java/lang/invoke/VarHandle" ∧ (parseMethodDescriptor yX8_run.desc).map (fun d => d.parameters.length) = some 2 := by decide +kernel
theorem ydX8_ofParts : yX8_ofParts.cls ≠ "java/lang/invoke/MethodHandle" ∧ yX8_ofParts.cls ≠ "java/lang/invoke/VarHandle" ∧ (parseMethodDescriptor yX8_ofParts.desc).map (fun d => d.parameters.length) = some 1 := by decide +kernel
theorem ydX8_count : yX8_count.cls ≠ "java/lang/invoke/MethodHandle" ∧ yX8_count.cls ≠ "java/lang/invoke/VarHandle" ∧ (parseMethodDescriptor yX8_count.desc).map (fun d => d.parameters.length) = some 1 := by decide +kernel
theorem ydX8_ifRolled : yX8_ifRolled.cls ≠ "java/lang/invoke/MethodHandle" ∧ yX8_ifRolled.cls ≠ "java/lang/invoke/VarHandle" ∧ (parseMethodDescriptor yX8_ifRolled.desc).map (fun d => d.parameters.length) = some 1 := by decide +kernel
theorem ydX8_widest : yX8_widest.cls ≠ "java/lang/invoke/MethodHandle" ∧ yX8_widest.cls ≠ "java/lang/invoke/VarHandle" ∧ (parseMethodDescriptor yX8_widest.desc).map (fun d => d.parameters.length) = some 0 := by decide +kernel
theorem ydX8_saves : yX8_saves.cls ≠ "java/lang/invoke/MethodHandle" ∧ yX8_saves.cls ≠ "java/lang/invoke/VarHandle" ∧ (parseMethodDescriptor yX8_saves.desc).map (fun d => d.parameters.length) = some 1 := by decide +kernel
theorem ydX8_traced : yX8_traced.cls ≠ "java/lang/invoke/MethodHandle" ∧ yX8_traced.cls ≠ "java/lang/invoke/VarHandle" ∧ (parseMethodDescriptor yX8_traced.desc).map (fun d => d.parameters.length) = some 3 := by decide +kernel
theorem ydX8_put : yX8_put.cls ≠ "java/lang/invoke/MethodHandle" ∧ yX8_put.cls ≠ "java/lang/invoke/VarHandle" ∧ (parseMethodDescriptor yX8_put.desc).map (fun d => d.parameters.length) = some 1 := by decide +kernel
theorem ydX8_wipe : yX8_wipe.cls ≠ "java/lang/invoke/MethodHandle" ∧ yX8_wipe.cls ≠ "java/lang/invoke/VarHandle" ∧ (parseMethodDescriptor yX8_wipe.desc).map (fun d => d.parameters.length) = some 0 := by decide +kernel
theorem ydX8_sign : yX8_sign.cls ≠ "java/lang/invoke/MethodHandle" ∧ yX8_sign.cls ≠ "java/lang/invoke/VarHandle" ∧ (parseMethodDescriptor yX8_sign.desc).map (fun d => d.parameters.length) = some 1 := by decide +kernel
theorem ydX8_digit : yX8_digit.cls ≠ "java/lang/invoke/MethodHandle" ∧ yX8_digit.cls ≠ "java/lang/invoke/VarHandle" ∧ (parseMethodDescriptor yX8_digit.desc).map (fun d => d.parameters.length) = some 1 := by decide +kernel
theorem ydX8_numberEnd : yX8_numberEnd.cls ≠ "java/lang/invoke/MethodHandle" ∧ yX8_numberEnd.cls ≠ "java/lang/invoke/VarHandle" ∧ (parseMethodDescriptor yX8_numberEnd.desc).map (fun d => d.parameters.length) = some 1 := by decide +kernel
theorem ydX8_numberAt : yX8_numberAt.cls ≠ "java/lang/invoke/MethodHandle" ∧ yX8_numberAt.cls ≠ "java/lang/invoke/VarHandle" ∧ (parseMethodDescriptor yX8_numberAt.desc).map (fun d => d.parameters.length) = some 1 := by decide +kernel
theorem ydX8_orderEnd : yX8_orderEnd.cls ≠ "java/lang/invoke/MethodHandle" ∧ yX8_orderEnd.cls ≠ "java/lang/invoke/VarHandle" ∧ (parseMethodDescriptor yX8_orderEnd.desc).map (fun d => d.parameters.length) = some 1 := by decide +kernel
theorem ydX8_fault : yX8_fault.cls ≠ "java/lang/invoke/MethodHandle" ∧ yX8_fault.cls ≠ "java/lang/invoke/VarHandle" ∧ (parseMethodDescriptor yX8_fault.desc).map (fun d => d.parameters.length) = some 0 := by decide +kernel
theorem ydX8_kindOf : yX8_kindOf.cls ≠ "java/lang/invoke/MethodHandle" ∧ yX8_kindOf.cls ≠ "java/lang/invoke/VarHandle" ∧ (parseMethodDescriptor yX8_kindOf.desc).map (fun d => d.parameters.length) = some 1 := by decide +kernel
theorem ydX8_whyNot : yX8_whyNot.cls ≠ "java/lang/invoke/MethodHandle" ∧ yX8_whyNot.cls ≠ "java/lang/invoke/VarHandle" ∧ (parseMethodDescriptor yX8_whyNot.desc).map (fun d => d.parameters.length) = some 1 := by decide +kernel
theorem ydX8_does : yX8_does.cls ≠ "java/lang/invoke/MethodHandle" ∧ yX8_does.cls ≠ "java/lang/invoke/VarHandle" ∧ (parseMethodDescriptor yX8_does.desc).map (fun d => d.parameters.length) = some 1 := by decide +kernel
theorem ydX8_carryOut : yX8_carryOut.cls ≠ "java/lang/invoke/MethodHandle" ∧ yX8_carryOut.cls ≠ "java/lang/invoke/VarHandle" ∧ (parseMethodDescriptor yX8_carryOut.desc).map (fun d => d.parameters.length) = some 0 := by decide +kernel
theorem ydX8_undo : yX8_undo.cls ≠ "java/lang/invoke/MethodHandle" ∧ yX8_undo.cls ≠ "java/lang/invoke/VarHandle" ∧ (parseMethodDescriptor yX8_undo.desc).map (fun d => d.parameters.length) = some 0 := by decide +kernel
theorem ydX8_save : yX8_save.cls ≠ "java/lang/invoke/MethodHandle" ∧ yX8_save.cls ≠ "java/lang/invoke/VarHandle" ∧ (parseMethodDescriptor yX8_save.desc).map (fun d => d.parameters.length) = some 1 := by decide +kernel
theorem ydX8_restore : yX8_restore.cls ≠ "java/lang/invoke/MethodHandle" ∧ yX8_restore.cls ≠ "java/lang/invoke/VarHandle" ∧ (parseMethodDescriptor yX8_restore.desc).map (fun d => d.parameters.length) = some 1 := by decide +kernel
end
section
/-! What a state is: one row of 161 numbers (the reference's own), read off both programs; what each step does to it. -/
/-- a hoop's fields out of a row; g: the greatest lean -/
abbrev hpV (a5 a6 a7 a8 a9 a10 a11 a12 a13 g : Int32) : va_E := .inr (1, [.int a5, .int a6, .int a7, .int a8, .int a9, .int a10, .int a11, .int a12, .int a13, .int g])
abbrev hpR (f : Nat → Int32) (g : Int32) : va_E := hpV (f 5) (f 6) (f 7) (f 8) (f 9) (f 10) (f 11) (f 12) (f 13) g
def mn99 (x : Int32) : Int32 := if x < 99 then x else 99
def iabs (x : Int32) : Int32 := if x < 0 then -x else x
def T_tap (fr : Int32) (f : Nat → Int32) : Nat → Int32 := upd (upd (upd f 8 (f 8 + (if fr = 0 then f 3 else -f 3))) 9 (mn99 (f 9 + 2))) 12 (f 12 + 1)
def T_push (f : Nat → Int32) : Nat → Int32 := upd (upd f 7 (mn99 (f 7 + 5))) 13 (f 13 + 1)
def T_begin (sz : Int32) (f : Nat → Int32) : Nat → Int32 := upd (upd (upd (upd (upd (upd (upd (upd (upd f 5 1) 6 sz) 7 10) 8 0) 9 0) 10 0) 11 0) 12 0) 13 0
/-- a drop of the height h -/
def T_drop (h : Int32) (f : Nat → Int32) : Nat → Int32 :=
  upd (upd (upd f 7 (mn99 (f 7 + h * 4))) 9 (mn99 (f 9 + f 1 * h))) 8 (f 8 + (if f 10 - f 10 / 2 * 2 = 0 then mn99 (f 9 + f 1 * h) / 4 else -(mn99 (f 9 + f 1 * h) / 4)))
def slow (v d : Int32) : Int32 := if v < d then 0 else v - d
def nearer (x by_ : Int32) : Int32 := if x < 0 then x + (if by_ < iabs x then by_ else iabs x) else x - (if by_ < iabs x then by_ else iabs x)
def T_land1 (f : Nat → Int32) : Nat → Int32 := upd (upd (upd f 7 (slow (f 7) (f 2))) 9 (f 9 - f 9 / 4)) 8 (nearer (f 8) (slow (f 7) (f 2) / 20))
def T_lands : Nat → (Nat → Int32) → Nat → Int32
  | 0, f => f
  | n + 1, f => T_lands n (T_land1 f)
def kindAt (f : Nat → Int32) (k : Nat) : Int32 := f (61 + 5 * k)
def valAt (f : Nat → Int32) (k : Nat) : Int32 := f (62 + 5 * k)
/-- at the part k: the row, and how the run is -/
def T_meet (k : Nat) (f : Nat → Int32) : (Nat → Int32) × Int32 :=
  if kindAt f k = 0 then (T_drop (valAt f k) f, 0)
  else if kindAt f k = 1 then (T_lands (valAt f k).toNatClampNeg f, if T_lands (valAt f k).toNatClampNeg f 7 = 0 then 3 else 0)
  else (f, if valAt f k < f 6 + f 9 / 4 then 2 else 0)
/-- the part k, and what is behind it: row, greatest lean, how -/
def T_pass (k : Nat) (f : Nat → Int32) (g : Int32) : (Nat → Int32) × Int32 × Int32 :=
  if (T_meet k f).2 = 0 then
    (if f 0 ≤ iabs ((T_meet k f).1 8) then ((T_meet k f).1, (if g < iabs ((T_meet k f).1 8) then iabs ((T_meet k f).1 8) else g), 1)
    else (upd (T_meet k f).1 10 (f 10 + 1), (if g < iabs ((T_meet k f).1 8) then iabs ((T_meet k f).1 8) else g), 0))
  else ((T_meet k f).1, g, (T_meet k f).2)
def T_step (f : Nat → Int32) (g : Int32) : (Nat → Int32) × Int32 :=
  if f 10 < f 4 then
    (if (T_pass (f 10).toNatClampNeg f g).2.2 = 0 then
      (if f 10 + 1 < f 4 then ((T_pass (f 10).toNatClampNeg f g).1, (T_pass (f 10).toNatClampNeg f g).2.1) else (upd (T_pass (f 10).toNatClampNeg f g).1 11 4, (T_pass (f 10).toNatClampNeg f g).2.1))
    else (upd (T_pass (f 10).toNatClampNeg f g).1 11 (T_pass (f 10).toNatClampNeg f g).2.2, (T_pass (f 10).toNatClampNeg f g).2.1))
  else (upd f 11 4, g)
def T_roll : Nat → (Nat → Int32) → Int32 → (Nat → Int32) × Int32
  | 0, f, g => (f, g)
  | n + 1, f, g => if f 11 = 0 then T_roll n (T_step f g).1 (T_step f g).2 else (f, g)
/-- the list of runs, one longer -/
def T_lists (f : Nat → Int32) : Nat → Int32 := fun j =>
  if j = 20 then f 20 + (if f 20 < 10 then 1 else 0) else if j = 21 then f 6 else if j = 22 then f 11 else if j = 23 then f 10 else if j = 24 then f 12 else if 25 ≤ j ∧ j < 61 then f (j - 4) else f j
/-- a run is over -/
def T_ends (f : Nat → Int32) : Nat → Int32 :=
  T_lists (if f 11 = 4 then upd f 18 (f 18 + 1) else upd (upd f (14 + (f 11).toNatClampNeg) (f (14 + (f 11).toNatClampNeg) + 1)) (62 + 5 * (f 10).toNatClampNeg + (f 11).toNatClampNeg) (f (62 + 5 * (f 10).toNatClampNeg + (f 11).toNatClampNeg) + 1))
def T_rolled (n : Nat) (f : Nat → Int32) (g : Int32) : Nat → Int32 := if (T_roll n f g).1 11 = 0 then (T_roll n f g).1 else T_ends (T_roll n f g).1
def T_insert (k : Nat) (kd v : Int32) (f : Nat → Int32) : Nat → Int32 := fun j =>
  if j = 4 then f 4 + 1 else if j = 5 then 0 else if j = 61 + 5 * k then kd else if j = 62 + 5 * k then v else if 63 + 5 * k ≤ j ∧ j < 66 + 5 * k then 0 else if 66 + 5 * k ≤ j ∧ j < 66 + 5 * (f 4).toNatClampNeg then f (j - 5) else f j
def T_remove (k : Nat) (f : Nat → Int32) : Nat → Int32 := fun j =>
  if j = 4 then f 4 - 1 else if j = 5 then 0 else if 61 + 5 * k ≤ j ∧ j < 56 + 5 * (f 4).toNatClampNeg then f (j + 5) else f j
-- arithmetic
theorem i_add {a b : Int32} (h1 : -2147483648 ≤ a.toInt + b.toInt) (h2 : a.toInt + b.toInt < 2147483648) : (a + b).toInt = a.toInt + b.toInt := by
  rw [Int32.toInt_add]
  exact Int.bmod_eq_of_le h1 h2
theorem i_sub {a b : Int32} (h1 : -2147483648 ≤ a.toInt - b.toInt) (h2 : a.toInt - b.toInt < 2147483648) : (a - b).toInt = a.toInt - b.toInt := by
  rw [Int32.toInt_sub]
  exact Int.bmod_eq_of_le h1 h2
theorem i_mul {a b : Int32} (h1 : -2147483648 ≤ a.toInt * b.toInt) (h2 : a.toInt * b.toInt < 2147483648) : (a * b).toInt = a.toInt * b.toInt := by
  rw [Int32.toInt_mul]
  exact Int.bmod_eq_of_le h1 h2
theorem i_neg {a : Int32} (h1 : -2147483648 < a.toInt) : (-a).toInt = -a.toInt := by
  have := a.toInt_lt
  rw [Int32.toInt_neg]
  exact Int.bmod_eq_of_le (by omega) (by omega)
theorem i_div {a b : Int32} (h : b ≠ -1) : (a / b).toInt = a.toInt.tdiv b.toInt := Int32.toInt_div_of_ne_right a b h
theorem i_div4 {a : Int32} (h : 0 ≤ a.toInt) : (a / 4).toInt = a.toInt / 4 := by
  rw [i_div (by decide)]
  exact Int.tdiv_eq_ediv_of_nonneg h
theorem i_div20 {a : Int32} (h : 0 ≤ a.toInt) : (a / 20).toInt = a.toInt / 20 := by
  rw [i_div (by decide)]
  exact Int.tdiv_eq_ediv_of_nonneg h
theorem i_nlt {x y : Int32} (h : y ≤ x) : ¬ x < y := by rw [Int32.le_iff_toInt_le] at h; rw [Int32.lt_iff_toInt_lt]; omega
theorem i_lt {x y : Int32} (h : ¬ y ≤ x) : x < y := by rw [Int32.le_iff_toInt_le] at h; rw [Int32.lt_iff_toInt_lt]; omega
theorem i_nle {x y : Int32} (h : x < y) : ¬ y ≤ x := by rw [Int32.lt_iff_toInt_lt] at h; rw [Int32.le_iff_toInt_le]; omega
theorem i_le {x y : Int32} (h : ¬ x < y) : y ≤ x := by rw [Int32.lt_iff_toInt_lt] at h; rw [Int32.le_iff_toInt_le]; omega
theorem i_nn {c : Prop} [Decidable c] (h : ¬ ¬ c) : c := Decidable.not_not.mp h
theorem iabs_eq (x : Int32) : (if 0 ≤ x then x else 0 - x) = iabs x := by
  unfold iabs
  by_cases h : x < 0
  · rw [if_pos h, if_neg (i_nle h), Int32.zero_sub]
  · rw [if_neg h, if_pos (i_le h)]
theorem uu {C : Nat → va_E} {h : Nat} {e e' : va_E} : va_up (va_up C h e) h e' = va_up C h e' := funext up_self
theorem up_id {C : Nat → va_E} {h : Nat} {e : va_E} (hC : C h = e) : C = va_up C h e := by
  funext j
  by_cases q : j = h
  · subst q; rw [va_up_self]; exact hC
  · rw [va_up_ne _ _ q]
/-- what a landing's step needs to be the same in both programs -/
def okL (f : Nat → Int32) : Prop := 0 ≤ (f 7).toInt ∧ (f 7).toInt ≤ 99 ∧ 0 ≤ (f 2).toInt ∧ (f 2).toInt ≤ 20 ∧ -1000000000 ≤ (f 8).toInt ∧ (f 8).toInt ≤ 1000000000
theorem slow_eq {v d : Int32} (h1 : 0 ≤ v.toInt) (h2 : v.toInt ≤ 99) (h3 : 0 ≤ d.toInt) (h4 : d.toInt ≤ 20) : (if 0 < v - d then v - d else 0) = slow v d := by
  unfold slow
  have e : (v - d).toInt = v.toInt - d.toInt := i_sub (by omega) (by omega)
  have z : (0 : Int32).toInt = 0 := rfl
  by_cases h : v < d
  · have h' := Int32.lt_iff_toInt_lt.mp h
    rw [if_pos h, if_neg (by rw [Int32.lt_iff_toInt_lt, e, z]; omega)]
  · have h' := h
    rw [Int32.lt_iff_toInt_lt] at h'
    rw [if_neg h]
    by_cases k : 0 < v - d
    · rw [if_pos k]
    · rw [if_neg k]
      rw [Int32.lt_iff_toInt_lt, e, z] at k
      apply Int32.toInt_inj.mp
      rw [e, z]
      omega
theorem slow_in {v d : Int32} (h1 : 0 ≤ v.toInt) (h2 : v.toInt ≤ 99) (h3 : 0 ≤ d.toInt) (h4 : d.toInt ≤ 20) : 0 ≤ (slow v d).toInt ∧ (slow v d).toInt ≤ 99 := by
  unfold slow
  have e : (v - d).toInt = v.toInt - d.toInt := i_sub (by omega) (by omega)
  have z : (0 : Int32).toInt = 0 := rfl
  by_cases h : v < d
  · rw [if_pos h, z]; omega
  · have h' := h
    rw [Int32.lt_iff_toInt_lt] at h'
    rw [if_neg h, e]
    omega
theorem iabs_in {x : Int32} (h : -1000000000 ≤ x.toInt) : (iabs x).toInt = (if x.toInt < 0 then -x.toInt else x.toInt) := by
  unfold iabs
  have z : (0 : Int32).toInt = 0 := rfl
  by_cases k : x < 0
  · have k' := Int32.lt_iff_toInt_lt.mp k
    rw [z] at k'
    rw [if_pos k, if_pos k', i_neg (by omega)]
  · have k' := k
    rw [Int32.lt_iff_toInt_lt, z] at k'
    rw [if_neg k, if_neg k']
/-- the class: toward 0, by max or min -/
theorem nearer_eq {x d : Int32} (h1 : -1000000000 ≤ x.toInt) (h2 : x.toInt ≤ 1000000000) (h3 : 0 ≤ d.toInt) (h4 : d.toInt ≤ 99) :
    (0 < x → (if 0 < x - d then x - d else 0) = nearer x d) ∧ (¬ 0 < x → (if x + d < 0 then x + d else 0) = nearer x d) := by
  have z : (0 : Int32).toInt = 0 := rfl
  have ea := iabs_in h1
  have e1 : (x - d).toInt = x.toInt - d.toInt := i_sub (by omega) (by omega)
  have e2 : (x + d).toInt = x.toInt + d.toInt := i_add (by omega) (by omega)
  unfold nearer
  refine ⟨fun h => ?_, fun h => ?_⟩
  · rw [Int32.lt_iff_toInt_lt, z] at h
    have hn : ¬ x < 0 := by rw [Int32.lt_iff_toInt_lt, z]; omega
    rw [if_neg (by omega)] at ea
    rw [if_neg hn]
    have ex : iabs x = x := Int32.toInt_inj.mp ea
    rw [ex]
    by_cases k : d < x
    · have k' := Int32.lt_iff_toInt_lt.mp k
      rw [if_pos k, if_pos (by rw [Int32.lt_iff_toInt_lt, e1, z]; omega)]
    · have k' := k
      rw [Int32.lt_iff_toInt_lt] at k'
      rw [if_neg k, if_neg (by rw [Int32.lt_iff_toInt_lt, e1, z]; omega)]
      apply Int32.toInt_inj.mp
      rw [i_sub (by omega) (by omega), z]
      omega
  · rw [Int32.lt_iff_toInt_lt, z] at h
    by_cases hn : x < 0
    · have hn' := Int32.lt_iff_toInt_lt.mp hn
      rw [z] at hn'
      rw [if_pos (by omega)] at ea
      rw [if_pos hn]
      by_cases k : d < iabs x
      · have k' := Int32.lt_iff_toInt_lt.mp k
        rw [if_pos k, if_pos (by rw [Int32.lt_iff_toInt_lt, e2, z]; omega)]
      · have k' := k
        rw [Int32.lt_iff_toInt_lt] at k'
        rw [if_neg k, if_neg (by rw [Int32.lt_iff_toInt_lt, e2, z]; omega)]
        apply Int32.toInt_inj.mp
        rw [i_add (by omega) (by omega), z, ea]
        omega
    · have hn' := hn
      rw [Int32.lt_iff_toInt_lt, z] at hn'
      have x0 : x = 0 := Int32.toInt_inj.mp (by rw [z]; omega)
      subst x0
      rw [if_neg hn, if_neg (by rw [Int32.lt_iff_toInt_lt, e2, z]; omega)]
      have a0 : iabs 0 = 0 := rfl
      rw [a0, if_neg (by rw [Int32.lt_iff_toInt_lt, z]; omega)]
      rfl
theorem nearer_in {x d : Int32} (h1 : -1000000000 ≤ x.toInt) (h2 : x.toInt ≤ 1000000000) (h3 : 0 ≤ d.toInt) (h4 : d.toInt ≤ 99) :
    (0 ≤ x.toInt → 0 ≤ (nearer x d).toInt ∧ (nearer x d).toInt ≤ x.toInt) ∧ (x.toInt < 0 → x.toInt ≤ (nearer x d).toInt ∧ (nearer x d).toInt ≤ 0) := by
  have z : (0 : Int32).toInt = 0 := rfl
  have e1 : (x - d).toInt = x.toInt - d.toInt := i_sub (by omega) (by omega)
  have e2 : (x + d).toInt = x.toInt + d.toInt := i_add (by omega) (by omega)
  obtain ⟨n1, n2⟩ := nearer_eq h1 h2 h3 h4
  by_cases h : 0 < x
  · have h' := Int32.lt_iff_toInt_lt.mp h
    rw [z] at h'
    rw [← n1 h]
    by_cases k : 0 < x - d
    · have k' := Int32.lt_iff_toInt_lt.mp k
      rw [z, e1] at k'
      rw [if_pos k, e1]; omega
    · rw [if_neg k, z]; omega
  · have h' := h
    rw [Int32.lt_iff_toInt_lt, z] at h'
    rw [← n2 h]
    by_cases k : x + d < 0
    · have k' := Int32.lt_iff_toInt_lt.mp k
      rw [z, e2] at k'
      rw [if_pos k, e2]; omega
    · rw [if_neg k, z]; omega
theorem okL_land {f : Nat → Int32} (h : okL f) : okL (T_land1 f) := by
  obtain ⟨a1, a2, a3, a4, a5, a6⟩ := h
  have hs := slow_in a1 a2 a3 a4
  have hd : (slow (f 7) (f 2) / 20).toInt = (slow (f 7) (f 2)).toInt / 20 := i_div20 hs.1
  have hn := nearer_in a5 a6 (d := slow (f 7) (f 2) / 20) (by omega) (by omega)
  refine ⟨hs.1, hs.2, a3, a4, ?_, ?_⟩
  · show -1000000000 ≤ (nearer (f 8) (slow (f 7) (f 2) / 20)).toInt
    by_cases k : 0 ≤ (f 8).toInt
    · have := hn.1 k; omega
    · have := hn.2 (by omega); omega
  · show (nearer (f 8) (slow (f 7) (f 2) / 20)).toInt ≤ 1000000000
    by_cases k : 0 ≤ (f 8).toInt
    · have := hn.1 k; omega
    · have := hn.2 (by omega); omega
theorem b_t {r : Int32} {c : Prop} [Decidable c] (h : r = if c then 1 else 0) (k : ¬ r = 0) : c := by
  by_cases q : c
  · exact q
  · rw [if_neg q] at h; exact absurd h k
theorem b_f {r : Int32} {c : Prop} [Decidable c] (h : r = if c then 1 else 0) (k : r = 0) : ¬ c := by
  intro q
  rw [if_pos q, k] at h
  exact absurd h (by decide)
theorem lc_out {x : Int32} {k : Nat} (h : x ≤ nI k) (hk : k ≤ x.toNatClampNeg) : k = x.toNatClampNeg := by
  have h1 := x.toNatClampNeg_lt
  have h2 : (nI k).toInt = k := nI_toInt (Nat.lt_of_le_of_lt hk h1)
  rw [Int32.le_iff_toInt_le, h2] at h
  have h3 : x.toNatClampNeg = x.toInt.toNat := rfl
  omega
theorem lc_in {x : Int32} {k : Nat} (h : ¬ x ≤ nI k) (hk : k ≤ x.toNatClampNeg) : k < x.toNatClampNeg := by
  have h1 := x.toNatClampNeg_lt
  have h2 : (nI k).toInt = k := nI_toInt (Nat.lt_of_le_of_lt hk h1)
  rw [Int32.le_iff_toInt_le, h2] at h
  have h3 : x.toNatClampNeg = x.toInt.toNat := rfl
  omega
theorem okL_r {f : Nat → Int32} (h : okL f) : 0 ≤ (slow (f 7) (f 2) / 20).toInt ∧ (slow (f 7) (f 2) / 20).toInt ≤ 99 := by
  have hs := slow_in h.1 h.2.1 h.2.2.1 h.2.2.2.1
  have hd : (slow (f 7) (f 2) / 20).toInt = (slow (f 7) (f 2)).toInt / 20 := i_div20 hs.1
  omega
theorem okL_s {f : Nat → Int32} (h : okL f) : (if 0 < f 7 - f 2 then f 7 - f 2 else 0) = slow (f 7) (f 2) := slow_eq h.1 h.2.1 h.2.2.1 h.2.2.2.1
theorem T_lands_s (n k : Nat) (f1 f : Nat → Int32) (h : T_lands (n - k) f1 = T_lands n f) (hk : k < n) : T_lands (n - (k + 1)) (T_land1 f1) = T_lands n f := by
  rw [← h, show n - k = n - (k + 1) + 1 by omega]
  rfl
theorem T_lands_e (n k : Nat) (f1 f : Nat → Int32) (h : T_lands (n - k) f1 = T_lands n f) (hk : k = n) : f1 = T_lands n f := by
  rw [← h, hk, Nat.sub_self]
  rfl
end
section
/-! HoopStairs$Hoop: the plain methods -/
set_option maxRecDepth 20000 in
/-- the wobble, 99 at most -/
theorem c_X1_shakeBy (l : Launch) (D : va_G) (Y : Nat → ClassId) (ad : Nat → Nat) (N : Nat) (hI : wI ad N) (C : Nat → va_E) (h : Nat) (hh : h < N) (a5 a6 a7 a8 a9 a10 a11 a12 a13 g : Int32) (hC : C h = hpV a5 a6 a7 a8 a9 a10 a11 a12 a13 g) (x : Int32) : Met l yX1_shakeBy (wm yX1_shakeBy cX1_shakeBy 2 none) { frames := 1, cells := 0, slots := 0, locals := 17 } (wPc D Y ad N [.ref (ad h), .int (x)] C) (wQv D ad N (fun C' => C' = va_up C h (hpV a5 a6 a7 a8 (mn99 (a9 + x)) a10 a11 a12 a13 g))) 0 0 (wA ad N) := by
  refine wMet RX1 rfl (by decide +kernel) (Nat.le_of_ble_eq_true rfl) (lv := [(0, .ref (ad h)), (1, .int (x))]) rfl ?_
  intro p e s m below meth c ls F hr hlocks hP hl
  have hS : va_S (wA ad N) s.heap s.heap [] := va_S.rf
  refine lv_aload_n F.1 F.2.1 dX1_shakeBy_0 rfl (lv_at hl 0 rfl) ?_
  refine lv_bipush (v := 99) F.1 F.2.1 dX1_shakeBy_1 (by decide) ?_
  refine lv_aload_n F.1 F.2.1 dX1_shakeBy_3 rfl (lv_at hl 0 rfl) ?_
  refine gf_X1_25 F hP hh hC (v := .int (a9)) rfl dX1_shakeBy_4 ?_
  refine lv_iload_n F.1 F.2.1 dX1_shakeBy_7 rfl (lv_at hl 1 rfl) ?_
  refine lv_iadd F.1 F.2.1 dX1_shakeBy_8 ?_
  refine w_min F hl.1 mw_314 (by decide) (Nat.le_of_ble_eq_true rfl) ⟨Nat.zero_le _, Nat.zero_le _⟩ dX1_shakeBy_9 ?_
  refine pf_X1_25 F hI hP hS hh hC (Nat.le_of_ble_eq_true rfl) (C1 := va_up C h (hpV a5 a6 a7 a8 (if a9 + x < 99 then a9 + x else 99) a10 a11 a12 a13 g)) (fun _ => rfl) dX1_shakeBy_12 (fun H locs hP hS => ?_)
  exact w_vret F hr hlocks hP hS dX1_shakeBy_15 rfl
set_option maxRecDepth 20000 in
/-- the speed, 99 at most -/
theorem c_X1_speedUpBy (l : Launch) (D : va_G) (Y : Nat → ClassId) (ad : Nat → Nat) (N : Nat) (hI : wI ad N) (C : Nat → va_E) (h : Nat) (hh : h < N) (a5 a6 a7 a8 a9 a10 a11 a12 a13 g : Int32) (hC : C h = hpV a5 a6 a7 a8 a9 a10 a11 a12 a13 g) (x : Int32) : Met l yX1_speedUpBy (wm yX1_speedUpBy cX1_speedUpBy 2 none) { frames := 1, cells := 0, slots := 0, locals := 17 } (wPc D Y ad N [.ref (ad h), .int (x)] C) (wQv D ad N (fun C' => C' = va_up C h (hpV a5 a6 (mn99 (a7 + x)) a8 a9 a10 a11 a12 a13 g))) 0 0 (wA ad N) := by
  refine wMet RX1 rfl (by decide +kernel) (Nat.le_of_ble_eq_true rfl) (lv := [(0, .ref (ad h)), (1, .int (x))]) rfl ?_
  intro p e s m below meth c ls F hr hlocks hP hl
  have hS : va_S (wA ad N) s.heap s.heap [] := va_S.rf
  refine lv_aload_n F.1 F.2.1 dX1_speedUpBy_0 rfl (lv_at hl 0 rfl) ?_
  refine lv_bipush (v := 99) F.1 F.2.1 dX1_speedUpBy_1 (by decide) ?_
  refine lv_aload_n F.1 F.2.1 dX1_speedUpBy_3 rfl (lv_at hl 0 rfl) ?_
  refine gf_X1_19 F hP hh hC (v := .int (a7)) rfl dX1_speedUpBy_4 ?_
  refine lv_iload_n F.1 F.2.1 dX1_speedUpBy_7 rfl (lv_at hl 1 rfl) ?_
  refine lv_iadd F.1 F.2.1 dX1_speedUpBy_8 ?_
  refine w_min F hl.1 mw_314 (by decide) (Nat.le_of_ble_eq_true rfl) ⟨Nat.zero_le _, Nat.zero_le _⟩ dX1_speedUpBy_9 ?_
  refine pf_X1_19 F hI hP hS hh hC (Nat.le_of_ble_eq_true rfl) (C1 := va_up C h (hpV a5 a6 (if a7 + x < 99 then a7 + x else 99) a8 a9 a10 a11 a12 a13 g)) (fun _ => rfl) dX1_speedUpBy_12 (fun H locs hP hS => ?_)
  exact w_vret F hr hlocks hP hS dX1_speedUpBy_15 rfl
set_option maxRecDepth 20000 in
/-- a tap -/
theorem c_X1_takeTap (l : Launch) (D : va_G) (Y : Nat → ClassId) (ad : Nat → Nat) (N : Nat) (hI : wI ad N) (C : Nat → va_E) (h : Nat) (hh : h < N) (a5 a6 a7 a8 a9 a10 a11 a12 a13 g : Int32) (hC : C h = hpV a5 a6 a7 a8 a9 a10 a11 a12 a13 g) (x d : Int32) : Met l yX1_takeTap (wm yX1_takeTap cX1_takeTap 3 none) { frames := 2, cells := 0, slots := 0, locals := 38 } (wPc D Y ad N [.ref (ad h), .int (x), .int (d)] C) (wQv D ad N (fun C' => C' = va_up C h (hpV a5 a6 a7 (a8 + (if x = 0 then d else -d)) (mn99 (a9 + 2)) a10 a11 (a12 + 1) a13 g))) 0 0 (wA ad N) := by
  refine wMet RX1 rfl (by decide +kernel) (Nat.le_of_ble_eq_true rfl) (lv := [(0, .ref (ad h)), (1, .int (x)), (2, .int (d))]) rfl ?_
  intro p e s m below meth c ls F hr hlocks hP hl
  have hS : va_S (wA ad N) s.heap s.heap [] := va_S.rf
  refine lv_aload_n F.1 F.2.1 dX1_takeTap_0 rfl (lv_at hl 0 rfl) ?_
  refine lv_dup F.1 F.2.1 dX1_takeTap_1 rfl ?_
  refine gf_X1_22 F hP hh hC (v := .int (a8)) rfl dX1_takeTap_2 ?_
  refine lv_iload_n F.1 F.2.1 dX1_takeTap_5 rfl (lv_at hl 1 rfl) ?_
  refine lv_if_ne (tgt := 13) F.1 F.2.1 dX1_takeTap_6 (by decide) (fun c1 => ?_) (fun c1 => ?_)
  · refine lv_iload_n F.1 F.2.1 dX1_takeTap_13 rfl (lv_at hl 2 rfl) ?_
    refine lv_ineg F.1 F.2.1 dX1_takeTap_14 ?_
    refine lv_iadd F.1 F.2.1 dX1_takeTap_15 ?_
    refine pf_X1_22 F hI hP hS hh hC (Nat.le_of_ble_eq_true rfl) (C1 := va_up C h (hpV a5 a6 a7 (a8 + (-d)) a9 a10 a11 a12 a13 g)) (fun _ => rfl) dX1_takeTap_16 (fun H locs hP hS => ?_)
    refine lv_aload_n F.1 F.2.1 dX1_takeTap_19 rfl (lv_at hl 0 rfl) ?_
    refine lv_iconst (v := 2) F.1 F.2.1 dX1_takeTap_20 (by decide) ?_
    refine w_callv F hP hS (c_X1_shakeBy l D Y ad N hI _ h hh a5 a6 a7 (a8 + (-d)) a9 a10 a11 a12 a13 g (va_up_self _ _ _) 2) (cwVm 1 F.2.2.2.2.1 (fun _ h => h) mw_318 mw_315 mw_316 mw_317 mw_30 rfl rfl ydX1_shakeBy ⟨by decide, by decide⟩) hh (va_up_self _ _ _) rfl rfl hl.1 rfl (Nat.le_of_ble_eq_true rfl) dX1_takeTap_21 ⟨Nat.zero_le _, Nat.zero_le _⟩ (fun C2 H locs hq hP hS => ?_)
    rw [uu] at hq; subst hq
    refine lv_aload_n F.1 F.2.1 dX1_takeTap_24 rfl (lv_at hl 0 rfl) ?_
    refine lv_dup F.1 F.2.1 dX1_takeTap_25 rfl ?_
    refine gf_X1_34 F hP hh (va_up_self _ _ _) (v := .int (a12)) rfl dX1_takeTap_26 ?_
    refine lv_iconst (v := 1) F.1 F.2.1 dX1_takeTap_29 (by decide) ?_
    refine lv_iadd F.1 F.2.1 dX1_takeTap_30 ?_
    refine pf_X1_34 F hI hP hS hh (va_up_self _ _ _) (Nat.le_of_ble_eq_true rfl) (C1 := va_up C h (hpV a5 a6 a7 (a8 + (-d)) (mn99 (a9 + 2)) a10 a11 (a12 + 1) a13 g)) up_self dX1_takeTap_31 (fun H locs hP hS => ?_)
    exact w_vret F hr hlocks hP hS dX1_takeTap_34 (by simp only [if_neg c1])
  · refine lv_iload_n F.1 F.2.1 dX1_takeTap_9 rfl (lv_at hl 2 rfl) ?_
    refine lv_goto (tgt := 15) F.1 F.2.1 dX1_takeTap_10 (by decide) ?_
    refine lv_iadd F.1 F.2.1 dX1_takeTap_15 ?_
    refine pf_X1_22 F hI hP hS hh hC (Nat.le_of_ble_eq_true rfl) (C1 := va_up C h (hpV a5 a6 a7 (a8 + d) a9 a10 a11 a12 a13 g)) (fun _ => rfl) dX1_takeTap_16 (fun H locs hP hS => ?_)
    refine lv_aload_n F.1 F.2.1 dX1_takeTap_19 rfl (lv_at hl 0 rfl) ?_
    refine lv_iconst (v := 2) F.1 F.2.1 dX1_takeTap_20 (by decide) ?_
    refine w_callv F hP hS (c_X1_shakeBy l D Y ad N hI _ h hh a5 a6 a7 (a8 + d) a9 a10 a11 a12 a13 g (va_up_self _ _ _) 2) (cwVm 1 F.2.2.2.2.1 (fun _ h => h) mw_318 mw_315 mw_316 mw_317 mw_30 rfl rfl ydX1_shakeBy ⟨by decide, by decide⟩) hh (va_up_self _ _ _) rfl rfl hl.1 rfl (Nat.le_of_ble_eq_true rfl) dX1_takeTap_21 ⟨Nat.zero_le _, Nat.zero_le _⟩ (fun C2 H locs hq hP hS => ?_)
    rw [uu] at hq; subst hq
    refine lv_aload_n F.1 F.2.1 dX1_takeTap_24 rfl (lv_at hl 0 rfl) ?_
    refine lv_dup F.1 F.2.1 dX1_takeTap_25 rfl ?_
    refine gf_X1_34 F hP hh (va_up_self _ _ _) (v := .int (a12)) rfl dX1_takeTap_26 ?_
    refine lv_iconst (v := 1) F.1 F.2.1 dX1_takeTap_29 (by decide) ?_
    refine lv_iadd F.1 F.2.1 dX1_takeTap_30 ?_
    refine pf_X1_34 F hI hP hS hh (va_up_self _ _ _) (Nat.le_of_ble_eq_true rfl) (C1 := va_up C h (hpV a5 a6 a7 (a8 + d) (mn99 (a9 + 2)) a10 a11 (a12 + 1) a13 g)) up_self dX1_takeTap_31 (fun H locs hP hS => ?_)
    exact w_vret F hr hlocks hP hS dX1_takeTap_34 (by simp only [if_pos c1])
set_option maxRecDepth 20000 in
/-- a push -/
theorem c_X1_takePush (l : Launch) (D : va_G) (Y : Nat → ClassId) (ad : Nat → Nat) (N : Nat) (hI : wI ad N) (C : Nat → va_E) (h : Nat) (hh : h < N) (a5 a6 a7 a8 a9 a10 a11 a12 a13 g : Int32) (hC : C h = hpV a5 a6 a7 a8 a9 a10 a11 a12 a13 g) : Met l yX1_takePush (wm yX1_takePush cX1_takePush 1 none) { frames := 2, cells := 0, slots := 0, locals := 38 } (wPc D Y ad N [.ref (ad h)] C) (wQv D ad N (fun C' => C' = va_up C h (hpV a5 a6 (mn99 (a7 + 5)) a8 a9 a10 a11 a12 (a13 + 1) g))) 0 0 (wA ad N) := by
  refine wMet RX1 rfl (by decide +kernel) (Nat.le_of_ble_eq_true rfl) (lv := [(0, .ref (ad h))]) rfl ?_
  intro p e s m below meth c ls F hr hlocks hP hl
  have hS : va_S (wA ad N) s.heap s.heap [] := va_S.rf
  refine lv_aload_n F.1 F.2.1 dX1_takePush_0 rfl (lv_at hl 0 rfl) ?_
  refine lv_iconst (v := 5) F.1 F.2.1 dX1_takePush_1 (by decide) ?_
  refine w_callv F hP hS (c_X1_speedUpBy l D Y ad N hI _ h hh a5 a6 a7 a8 a9 a10 a11 a12 a13 g hC 5) (cwVm 1 F.2.2.2.2.1 (fun _ h => h) mw_313 mw_310 mw_311 mw_312 mw_30 rfl rfl ydX1_speedUpBy ⟨by decide, by decide⟩) hh hC rfl rfl hl.1 rfl (Nat.le_of_ble_eq_true rfl) dX1_takePush_2 ⟨Nat.zero_le _, Nat.zero_le _⟩ (fun C2 H locs hq hP hS => ?_)
  subst hq
  refine lv_aload_n F.1 F.2.1 dX1_takePush_5 rfl (lv_at hl 0 rfl) ?_
  refine lv_dup F.1 F.2.1 dX1_takePush_6 rfl ?_
  refine gf_X1_37 F hP hh (va_up_self _ _ _) (v := .int (a13)) rfl dX1_takePush_7 ?_
  refine lv_iconst (v := 1) F.1 F.2.1 dX1_takePush_10 (by decide) ?_
  refine lv_iadd F.1 F.2.1 dX1_takePush_11 ?_
  refine pf_X1_37 F hI hP hS hh (va_up_self _ _ _) (Nat.le_of_ble_eq_true rfl) (C1 := va_up C h (hpV a5 a6 (mn99 (a7 + 5)) a8 a9 a10 a11 a12 (a13 + 1) g)) up_self dX1_takePush_12 (fun H locs hP hS => ?_)
  exact w_vret F hr hlocks hP hS dX1_takePush_15 rfl
set_option maxRecDepth 20000 in
/-- a new run -/
theorem c_X1_begin (l : Launch) (D : va_G) (Y : Nat → ClassId) (ad : Nat → Nat) (N : Nat) (hI : wI ad N) (C : Nat → va_E) (h : Nat) (hh : h < N) (a5 a6 a7 a8 a9 a10 a11 a12 a13 g : Int32) (hC : C h = hpV a5 a6 a7 a8 a9 a10 a11 a12 a13 g) (x : Int32) : Met l yX1_begin (wm yX1_begin cX1_begin 2 none) { frames := 0, cells := 0, slots := 0, locals := 0 } (wPc D Y ad N [.ref (ad h), .int (x)] C) (wQv D ad N (fun C' => C' = va_up C h (hpV 1 x 10 0 0 0 0 0 0 0))) 0 0 (wA ad N) := by
  refine wMet RX1 rfl (by decide +kernel) (Nat.le_of_ble_eq_true rfl) (lv := [(0, .ref (ad h)), (1, .int (x))]) rfl ?_
  intro p e s m below meth c ls F hr hlocks hP hl
  have hS : va_S (wA ad N) s.heap s.heap [] := va_S.rf
  refine lv_aload_n F.1 F.2.1 dX1_begin_0 rfl (lv_at hl 0 rfl) ?_
  refine lv_iconst (v := 1) F.1 F.2.1 dX1_begin_1 (by decide) ?_
  refine pf_X1_9 F hI hP hS hh hC (hz := Or.inr rfl) (Nat.le_of_ble_eq_true rfl) (C1 := va_up C h (hpV 1 a6 a7 a8 a9 a10 a11 a12 a13 g)) (fun _ => rfl) dX1_begin_2 (fun H locs hP hS => ?_)
  refine lv_aload_n F.1 F.2.1 dX1_begin_5 rfl (lv_at hl 0 rfl) ?_
  refine lv_iload_n F.1 F.2.1 dX1_begin_6 rfl (lv_at hl 1 rfl) ?_
  refine pf_X1_15 F hI hP hS hh (va_up_self _ _ _) (Nat.le_of_ble_eq_true rfl) (C1 := va_up C h (hpV 1 x a7 a8 a9 a10 a11 a12 a13 g)) up_self dX1_begin_7 (fun H locs hP hS => ?_)
  refine lv_aload_n F.1 F.2.1 dX1_begin_10 rfl (lv_at hl 0 rfl) ?_
  refine lv_bipush (v := 10) F.1 F.2.1 dX1_begin_11 (by decide) ?_
  refine pf_X1_19 F hI hP hS hh (va_up_self _ _ _) (Nat.le_of_ble_eq_true rfl) (C1 := va_up C h (hpV 1 x 10 a8 a9 a10 a11 a12 a13 g)) up_self dX1_begin_13 (fun H locs hP hS => ?_)
  refine lv_aload_n F.1 F.2.1 dX1_begin_16 rfl (lv_at hl 0 rfl) ?_
  refine lv_iconst (v := 0) F.1 F.2.1 dX1_begin_17 (by decide) ?_
  refine pf_X1_22 F hI hP hS hh (va_up_self _ _ _) (Nat.le_of_ble_eq_true rfl) (C1 := va_up C h (hpV 1 x 10 0 a9 a10 a11 a12 a13 g)) up_self dX1_begin_18 (fun H locs hP hS => ?_)
  refine lv_aload_n F.1 F.2.1 dX1_begin_21 rfl (lv_at hl 0 rfl) ?_
  refine lv_iconst (v := 0) F.1 F.2.1 dX1_begin_22 (by decide) ?_
  refine pf_X1_25 F hI hP hS hh (va_up_self _ _ _) (Nat.le_of_ble_eq_true rfl) (C1 := va_up C h (hpV 1 x 10 0 0 a10 a11 a12 a13 g)) up_self dX1_begin_23 (fun H locs hP hS => ?_)
  refine lv_aload_n F.1 F.2.1 dX1_begin_26 rfl (lv_at hl 0 rfl) ?_
  refine lv_iconst (v := 0) F.1 F.2.1 dX1_begin_27 (by decide) ?_
  refine pf_X1_28 F hI hP hS hh (va_up_self _ _ _) (Nat.le_of_ble_eq_true rfl) (C1 := va_up C h (hpV 1 x 10 0 0 0 a11 a12 a13 g)) up_self dX1_begin_28 (fun H locs hP hS => ?_)
  refine lv_aload_n F.1 F.2.1 dX1_begin_31 rfl (lv_at hl 0 rfl) ?_
  refine lv_iconst (v := 0) F.1 F.2.1 dX1_begin_32 (by decide) ?_
  refine pf_X1_31 F hI hP hS hh (va_up_self _ _ _) (Nat.le_of_ble_eq_true rfl) (C1 := va_up C h (hpV 1 x 10 0 0 0 0 a12 a13 g)) up_self dX1_begin_33 (fun H locs hP hS => ?_)
  refine lv_aload_n F.1 F.2.1 dX1_begin_36 rfl (lv_at hl 0 rfl) ?_
  refine lv_iconst (v := 0) F.1 F.2.1 dX1_begin_37 (by decide) ?_
  refine pf_X1_34 F hI hP hS hh (va_up_self _ _ _) (Nat.le_of_ble_eq_true rfl) (C1 := va_up C h (hpV 1 x 10 0 0 0 0 0 a13 g)) up_self dX1_begin_38 (fun H locs hP hS => ?_)
  refine lv_aload_n F.1 F.2.1 dX1_begin_41 rfl (lv_at hl 0 rfl) ?_
  refine lv_iconst (v := 0) F.1 F.2.1 dX1_begin_42 (by decide) ?_
  refine pf_X1_37 F hI hP hS hh (va_up_self _ _ _) (Nat.le_of_ble_eq_true rfl) (C1 := va_up C h (hpV 1 x 10 0 0 0 0 0 0 g)) up_self dX1_begin_43 (fun H locs hP hS => ?_)
  refine lv_aload_n F.1 F.2.1 dX1_begin_46 rfl (lv_at hl 0 rfl) ?_
  refine lv_iconst (v := 0) F.1 F.2.1 dX1_begin_47 (by decide) ?_
  refine pf_X1_40 F hI hP hS hh (va_up_self _ _ _) (Nat.le_of_ble_eq_true rfl) (C1 := va_up C h (hpV 1 x 10 0 0 0 0 0 0 0)) up_self dX1_begin_48 (fun H locs hP hS => ?_)
  exact w_vret F hr hlocks hP hS dX1_begin_51 rfl
set_option maxRecDepth 20000 in
/-- the hoop is gone -/
theorem c_X1_vanish (l : Launch) (D : va_G) (Y : Nat → ClassId) (ad : Nat → Nat) (N : Nat) (hI : wI ad N) (C : Nat → va_E) (h : Nat) (hh : h < N) (a5 a6 a7 a8 a9 a10 a11 a12 a13 g : Int32) (hC : C h = hpV a5 a6 a7 a8 a9 a10 a11 a12 a13 g) : Met l yX1_vanish (wm yX1_vanish cX1_vanish 1 none) { frames := 0, cells := 0, slots := 0, locals := 0 } (wPc D Y ad N [.ref (ad h)] C) (wQv D ad N (fun C' => C' = va_up C h (hpV 0 a6 a7 a8 a9 a10 a11 a12 a13 g))) 0 0 (wA ad N) := by
  refine wMet RX1 rfl (by decide +kernel) (Nat.le_of_ble_eq_true rfl) (lv := [(0, .ref (ad h))]) rfl ?_
  intro p e s m below meth c ls F hr hlocks hP hl
  have hS : va_S (wA ad N) s.heap s.heap [] := va_S.rf
  refine lv_aload_n F.1 F.2.1 dX1_vanish_0 rfl (lv_at hl 0 rfl) ?_
  refine lv_iconst (v := 0) F.1 F.2.1 dX1_vanish_1 (by decide) ?_
  refine pf_X1_9 F hI hP hS hh hC (hz := Or.inl rfl) (Nat.le_of_ble_eq_true rfl) (C1 := va_up C h (hpV 0 a6 a7 a8 a9 a10 a11 a12 a13 g)) (fun _ => rfl) dX1_vanish_2 (fun H locs hP hS => ?_)
  exact w_vret F hr hlocks hP hS dX1_vanish_5 rfl
set_option maxRecDepth 20000 in
/-- is it rolling -/
theorem c_X1_rolls (l : Launch) (D : va_G) (Y : Nat → ClassId) (ad : Nat → Nat) (N : Nat) (hI : wI ad N) (C : Nat → va_E) (h : Nat) (hh : h < N) (a5 a6 a7 a8 a9 a10 a11 a12 a13 g : Int32) (hC : C h = hpV a5 a6 a7 a8 a9 a10 a11 a12 a13 g) (hz : a5 = 0 ∨ a5 = 1) : Met l yX1_rolls (wm yX1_rolls cX1_rolls 1 (some .boolean)) { frames := 0, cells := 0, slots := 0, locals := 0 } (wPc D Y ad N [.ref (ad h)] C) (wQi D ad N (fun r C' => C' = C ∧ r = if a5 = 1 ∧ a11 = 0 then 1 else 0)) 0 0 (wA ad N) := by
  refine wMet RX1 rfl (by decide +kernel) (Nat.le_of_ble_eq_true rfl) (lv := [(0, .ref (ad h))]) rfl ?_
  intro p e s m below meth c ls F hr hlocks hP hl
  have hS : va_S (wA ad N) s.heap s.heap [] := va_S.rf
  refine lv_aload_n F.1 F.2.1 dX1_rolls_0 rfl (lv_at hl 0 rfl) ?_
  refine gf_X1_9 F hP hh hC (v := .int (a5)) rfl dX1_rolls_1 ?_
  refine lv_if_eq (tgt := 18) F.1 F.2.1 dX1_rolls_4 (by decide) (fun c1 => ?_) (fun c1 => ?_)
  · refine lv_iconst (v := 0) F.1 F.2.1 dX1_rolls_18 (by decide) ?_
    exact w_zret F hr hlocks hP hS (Or.inl rfl) dX1_rolls_19 ⟨rfl, by rw [if_neg (fun q => by rw [c1] at q; exact absurd q.1 (by decide))]⟩
  · refine lv_aload_n F.1 F.2.1 dX1_rolls_7 rfl (lv_at hl 0 rfl) ?_
    refine gf_X1_31 F hP hh hC (v := .int (a11)) rfl dX1_rolls_8 ?_
    refine lv_if_ne (tgt := 18) F.1 F.2.1 dX1_rolls_11 (by decide) (fun c2 => ?_) (fun c2 => ?_)
    · refine lv_iconst (v := 0) F.1 F.2.1 dX1_rolls_18 (by decide) ?_
      exact w_zret F hr hlocks hP hS (Or.inl rfl) dX1_rolls_19 ⟨rfl, by rw [if_neg (fun q => c2 q.2)]⟩
    · refine lv_iconst (v := 1) F.1 F.2.1 dX1_rolls_14 (by decide) ?_
      refine lv_goto (tgt := 19) F.1 F.2.1 dX1_rolls_15 (by decide) ?_
      exact w_zret F hr hlocks hP hS (Or.inr rfl) dX1_rolls_19 ⟨rfl, by rw [if_pos ⟨hz.resolve_left c1, c2⟩]⟩
set_option maxRecDepth 20000 in
/-- a drop -/
theorem c_X1_dropBy (l : Launch) (D : va_G) (Y : Nat → ClassId) (ad : Nat → Nat) (N : Nat) (hI : wI ad N) (C : Nat → va_E) (h : Nat) (hh : h < N) (a5 a6 a7 a8 a9 a10 a11 a12 a13 g : Int32) (hC : C h = hpV a5 a6 a7 a8 a9 a10 a11 a12 a13 g) (x d : Int32) : Met l yX1_dropBy (wm yX1_dropBy cX1_dropBy 3 none) { frames := 2, cells := 0, slots := 0, locals := 38 } (wPc D Y ad N [.ref (ad h), .int (x), .int (d)] C) (wQv D ad N (fun C' => C' = va_up C h (hpV a5 a6 (mn99 (a7 + x * 4)) (a8 + (if a10 - a10 / 2 * 2 = 0 then mn99 (a9 + d * x) / 4 else -(mn99 (a9 + d * x) / 4))) (mn99 (a9 + d * x)) a10 a11 a12 a13 g))) 0 0 (wA ad N) := by
  refine wMet RX1 rfl (by decide +kernel) (Nat.le_of_ble_eq_true rfl) (lv := [(0, .ref (ad h)), (1, .int (x)), (2, .int (d))]) rfl ?_
  intro p e s m below meth c ls F hr hlocks hP hl
  have hS : va_S (wA ad N) s.heap s.heap [] := va_S.rf
  refine lv_aload_n F.1 F.2.1 dX1_dropBy_0 rfl (lv_at hl 0 rfl) ?_
  refine lv_iload_n F.1 F.2.1 dX1_dropBy_1 rfl (lv_at hl 1 rfl) ?_
  refine lv_iconst (v := 4) F.1 F.2.1 dX1_dropBy_2 (by decide) ?_
  refine lv_imul F.1 F.2.1 dX1_dropBy_3 ?_
  refine w_callv F hP hS (c_X1_speedUpBy l D Y ad N hI _ h hh a5 a6 a7 a8 a9 a10 a11 a12 a13 g hC (x * 4)) (cwVm 1 F.2.2.2.2.1 (fun _ h => h) mw_313 mw_310 mw_311 mw_312 mw_30 rfl rfl ydX1_speedUpBy ⟨by decide, by decide⟩) hh hC rfl rfl hl.1 rfl (Nat.le_of_ble_eq_true rfl) dX1_dropBy_4 ⟨Nat.zero_le _, Nat.zero_le _⟩ (fun C2 H locs hq hP hS => ?_)
  subst hq
  refine lv_aload_n F.1 F.2.1 dX1_dropBy_7 rfl (lv_at hl 0 rfl) ?_
  refine lv_iload_n F.1 F.2.1 dX1_dropBy_8 rfl (lv_at hl 2 rfl) ?_
  refine lv_iload_n F.1 F.2.1 dX1_dropBy_9 rfl (lv_at hl 1 rfl) ?_
  refine lv_imul F.1 F.2.1 dX1_dropBy_10 ?_
  refine w_callv F hP hS (c_X1_shakeBy l D Y ad N hI _ h hh a5 a6 (mn99 (a7 + (x * 4))) a8 a9 a10 a11 a12 a13 g (va_up_self _ _ _) (d * x)) (cwVm 1 F.2.2.2.2.1 (fun _ h => h) mw_318 mw_315 mw_316 mw_317 mw_30 rfl rfl ydX1_shakeBy ⟨by decide, by decide⟩) hh (va_up_self _ _ _) rfl rfl hl.1 rfl (Nat.le_of_ble_eq_true rfl) dX1_dropBy_11 ⟨Nat.zero_le _, Nat.zero_le _⟩ (fun C2 H locs hq hP hS => ?_)
  rw [uu] at hq; subst hq
  refine lv_aload_n F.1 F.2.1 dX1_dropBy_14 rfl (lv_at hl 0 rfl) ?_
  refine lv_dup F.1 F.2.1 dX1_dropBy_15 rfl ?_
  refine gf_X1_22 F hP hh (va_up_self _ _ _) (v := .int (a8)) rfl dX1_dropBy_16 ?_
  refine lv_aload_n F.1 F.2.1 dX1_dropBy_19 rfl (lv_at hl 0 rfl) ?_
  refine gf_X1_28 F hP hh (va_up_self _ _ _) (v := .int (a10)) rfl dX1_dropBy_20 ?_
  refine lv_iconst (v := 2) F.1 F.2.1 dX1_dropBy_23 (by decide) ?_
  refine lv_irem F.1 F.2.1 dX1_dropBy_24 (by decide) ?_
  refine lv_if_ne (tgt := 37) F.1 F.2.1 dX1_dropBy_25 (by decide) (fun c1 => ?_) (fun c1 => ?_)
  · refine lv_aload_n F.1 F.2.1 dX1_dropBy_37 rfl (lv_at hl 0 rfl) ?_
    refine gf_X1_25 F hP hh (va_up_self _ _ _) (v := .int (mn99 (a9 + (d * x)))) rfl dX1_dropBy_38 ?_
    refine lv_iconst (v := 4) F.1 F.2.1 dX1_dropBy_41 (by decide) ?_
    refine lv_idiv F.1 F.2.1 dX1_dropBy_42 (by decide) ?_
    refine lv_ineg F.1 F.2.1 dX1_dropBy_43 ?_
    refine lv_iadd F.1 F.2.1 dX1_dropBy_44 ?_
    refine pf_X1_22 F hI hP hS hh (va_up_self _ _ _) (Nat.le_of_ble_eq_true rfl) (C1 := va_up C h (hpV a5 a6 (mn99 (a7 + (x * 4))) (a8 + (-((mn99 (a9 + (d * x))) / 4))) (mn99 (a9 + (d * x))) a10 a11 a12 a13 g)) up_self dX1_dropBy_45 (fun H locs hP hS => ?_)
    exact w_vret F hr hlocks hP hS dX1_dropBy_48 (by simp only [if_neg c1])
  · refine lv_aload_n F.1 F.2.1 dX1_dropBy_28 rfl (lv_at hl 0 rfl) ?_
    refine gf_X1_25 F hP hh (va_up_self _ _ _) (v := .int (mn99 (a9 + (d * x)))) rfl dX1_dropBy_29 ?_
    refine lv_iconst (v := 4) F.1 F.2.1 dX1_dropBy_32 (by decide) ?_
    refine lv_idiv F.1 F.2.1 dX1_dropBy_33 (by decide) ?_
    refine lv_goto (tgt := 44) F.1 F.2.1 dX1_dropBy_34 (by decide) ?_
    refine lv_iadd F.1 F.2.1 dX1_dropBy_44 ?_
    refine pf_X1_22 F hI hP hS hh (va_up_self _ _ _) (Nat.le_of_ble_eq_true rfl) (C1 := va_up C h (hpV a5 a6 (mn99 (a7 + (x * 4))) (a8 + ((mn99 (a9 + (d * x))) / 4)) (mn99 (a9 + (d * x))) a10 a11 a12 a13 g)) up_self dX1_dropBy_45 (fun H locs hP hS => ?_)
    exact w_vret F hr hlocks hP hS dX1_dropBy_48 (by simp only [if_pos c1])
set_option maxRecDepth 20000 in
/-- the lean, nearer to 0 -/
theorem c_X1_rightItselfBy (l : Launch) (D : va_G) (Y : Nat → ClassId) (ad : Nat → Nat) (N : Nat) (hI : wI ad N) (C : Nat → va_E) (h : Nat) (hh : h < N) (a5 a6 a7 a8 a9 a10 a11 a12 a13 g : Int32) (hC : C h = hpV a5 a6 a7 a8 a9 a10 a11 a12 a13 g) (x : Int32) (h1 : -1000000000 ≤ a8.toInt) (h2 : a8.toInt ≤ 1000000000) (h3 : 0 ≤ x.toInt) (h4 : x.toInt ≤ 99) : Met l yX1_rightItselfBy (wm yX1_rightItselfBy cX1_rightItselfBy 2 none) { frames := 1, cells := 0, slots := 0, locals := 17 } (wPc D Y ad N [.ref (ad h), .int (x)] C) (wQv D ad N (fun C' => C' = va_up C h (hpV a5 a6 a7 (nearer a8 x) a9 a10 a11 a12 a13 g))) 0 0 (wA ad N) := by
  refine wMet RX1 rfl (by decide +kernel) (Nat.le_of_ble_eq_true rfl) (lv := [(0, .ref (ad h)), (1, .int (x))]) rfl ?_
  intro p e s m below meth c ls F hr hlocks hP hl
  have hS : va_S (wA ad N) s.heap s.heap [] := va_S.rf
  refine lv_aload_n F.1 F.2.1 dX1_rightItselfBy_0 rfl (lv_at hl 0 rfl) ?_
  refine gf_X1_22 F hP hh hC (v := .int (a8)) rfl dX1_rightItselfBy_1 ?_
  refine lv_if_le (tgt := 24) F.1 F.2.1 dX1_rightItselfBy_4 (by decide) (fun c1 => ?_) (fun c1 => ?_)
  · refine lv_aload_n F.1 F.2.1 dX1_rightItselfBy_24 rfl (lv_at hl 0 rfl) ?_
    refine lv_iconst (v := 0) F.1 F.2.1 dX1_rightItselfBy_25 (by decide) ?_
    refine lv_aload_n F.1 F.2.1 dX1_rightItselfBy_26 rfl (lv_at hl 0 rfl) ?_
    refine gf_X1_22 F hP hh hC (v := .int (a8)) rfl dX1_rightItselfBy_27 ?_
    refine lv_iload_n F.1 F.2.1 dX1_rightItselfBy_30 rfl (lv_at hl 1 rfl) ?_
    refine lv_iadd F.1 F.2.1 dX1_rightItselfBy_31 ?_
    refine w_min F hl.1 mw_314 (by decide) (Nat.le_of_ble_eq_true rfl) ⟨Nat.zero_le _, Nat.zero_le _⟩ dX1_rightItselfBy_32 ?_
    refine pf_X1_22 F hI hP hS hh hC (Nat.le_of_ble_eq_true rfl) (C1 := va_up C h (hpV a5 a6 a7 (if a8 + x < 0 then a8 + x else 0) a9 a10 a11 a12 a13 g)) (fun _ => rfl) dX1_rightItselfBy_35 (fun H locs hP hS => ?_)
    exact w_vret F hr hlocks hP hS dX1_rightItselfBy_38 (by rw [← (nearer_eq h1 h2 h3 h4).2 (i_nlt c1)])
  · refine lv_aload_n F.1 F.2.1 dX1_rightItselfBy_7 rfl (lv_at hl 0 rfl) ?_
    refine lv_iconst (v := 0) F.1 F.2.1 dX1_rightItselfBy_8 (by decide) ?_
    refine lv_aload_n F.1 F.2.1 dX1_rightItselfBy_9 rfl (lv_at hl 0 rfl) ?_
    refine gf_X1_22 F hP hh hC (v := .int (a8)) rfl dX1_rightItselfBy_10 ?_
    refine lv_iload_n F.1 F.2.1 dX1_rightItselfBy_13 rfl (lv_at hl 1 rfl) ?_
    refine lv_isub F.1 F.2.1 dX1_rightItselfBy_14 ?_
    refine w_max F hl.1 mw_323 (by decide) (Nat.le_of_ble_eq_true rfl) ⟨Nat.zero_le _, Nat.zero_le _⟩ dX1_rightItselfBy_15 ?_
    refine pf_X1_22 F hI hP hS hh hC (Nat.le_of_ble_eq_true rfl) (C1 := va_up C h (hpV a5 a6 a7 (if 0 < a8 - x then a8 - x else 0) a9 a10 a11 a12 a13 g)) (fun _ => rfl) dX1_rightItselfBy_18 (fun H locs hP hS => ?_)
    refine lv_goto (tgt := 38) F.1 F.2.1 dX1_rightItselfBy_21 (by decide) ?_
    exact w_vret F hr hlocks hP hS dX1_rightItselfBy_38 (by rw [← (nearer_eq h1 h2 h3 h4).1 (i_lt c1)])
end
section
/-! Settings and Stair: reads -/
/-- settings at se -/
def isSett (Y : Nat → ClassId) (ad : Nat → Nat) (C : Nat → va_E) (se : Nat) (f : Nat → Int32) : Prop :=
  C se = .inr (4, [.ref (ad (se + 1))]) ∧ ∃ q : Nat → Int32, C (se + 1) = .inl (Y 0, 4, .inl q) ∧ ∀ i, i < 4 → q i = f i
/-- a stair at st: its object, the grid, five columns -/
def isStair (Y : Nat → ClassId) (ad : Nat → Nat) (C : Nat → va_E) (st : Nat) (f : Nat → Int32) : Prop :=
  C st = .inr (5, [.ref (ad (st + 1)), .int (f 4)]) ∧ (∃ q : Nat → Option Nat, C (st + 1) = .inl (Y 3, 5, .inr (.inr (.inr (.inr q)))) ∧ ∀ i, i < 5 → q i = some (ad (st + 2 + i))) ∧
  ∀ i, i < 5 → ∃ q : Nat → Int32, C (st + 2 + i) = .inl (Y 0, 20, .inl q) ∧ ∀ k, k < 20 → q k = f (61 + 5 * k + i)
set_option maxRecDepth 20000 in
set_option maxHeartbeats 4000000 in
/-- a setting -/
theorem c_X4_value (l : Launch) (D : va_G) (Y : Nat → ClassId) (ad : Nat → Nat) (N : Nat) (hI : wI ad N) (C : Nat → va_E) (se : Nat) (hh : se + 1 < N) (f : Nat → Int32) (hs : isSett Y ad C se f) (k : Nat) (hk : k < 4) : Met l yX4_value (wm yX4_value cX4_value 2 (some .int)) { frames := 0, cells := 0, slots := 0, locals := 0 } (wPc D Y ad N [.ref (ad se), .int (nI k)] C) (wQi D ad N (fun r C' => C' = C ∧ r = f k)) 0 0 (wA ad N) := by
  obtain ⟨q, h1, h1q⟩ := hs.2
  refine wMet RX4 rfl (by decide +kernel) (Nat.le_of_ble_eq_true rfl) (lv := [(0, .ref (ad se)), (1, .int (nI k))]) rfl ?_
  intro p e s m below meth c ls F hr hlocks hP hl
  have hS : va_S (wA ad N) s.heap s.heap [] := va_S.rf
  refine lv_iload_n F.1 F.2.1 dX4_value_0 rfl (lv_at hl 1 rfl) ?_
  refine lv_if_lt (tgt := 18) F.1 F.2.1 dX4_value_1 (by decide) (fun c1 => False.elim (nI_pos (by omega) c1)) (fun c1 => ?_)
  refine lv_iload_n F.1 F.2.1 dX4_value_4 rfl (lv_at hl 1 rfl) ?_
  refine lv_iconst (v := 4) F.1 F.2.1 dX4_value_5 (by decide) ?_
  refine lv_icmp_ge (tgt := 18) F.1 F.2.1 dX4_value_6 (by decide) (fun c2 => False.elim (nI_ge (b := 4) hk (by decide) c2)) (fun c2 => ?_)
  refine lv_aload_n F.1 F.2.1 dX4_value_9 rfl (lv_at hl 0 rfl) ?_
  refine gf_X4_18 F hP (by omega) hs.1 (v := .ref (ad (se + 1))) rfl dX4_value_10 ?_
  refine lv_iload_n F.1 F.2.1 dX4_value_13 rfl (lv_at hl 1 rfl) ?_
  refine w_iald F hP (by omega) h1 (k := k) rfl hk (Nat.le_of_ble_eq_true rfl) (v := f k) (h1q k hk) dX4_value_14 ?_
  refine lv_goto (tgt := 19) F.1 F.2.1 dX4_value_15 (by decide) ?_
  exact w_iret F hr hlocks hP hS dX4_value_19 ⟨rfl, rfl⟩
set_option maxRecDepth 20000 in
set_option maxHeartbeats 4000000 in
/-- is there a part -/
theorem c_X5_has (l : Launch) (D : va_G) (Y : Nat → ClassId) (ad : Nat → Nat) (N : Nat) (hI : wI ad N) (C : Nat → va_E) (st : Nat) (hh : st < N) (gr : Nat) (n : Int32) (hC : C st = .inr (5, [.ref gr, .int n])) (x : Int32) : Met l yX5_has (wm yX5_has cX5_has 2 (some .boolean)) { frames := 0, cells := 0, slots := 0, locals := 0 } (wPc D Y ad N [.ref (ad st), .int (x)] C) (wQi D ad N (fun r C' => C' = C ∧ r = if 0 ≤ x ∧ x < n ∧ x < 20 then 1 else 0)) 0 0 (wA ad N) := by
  refine wMet RX5 rfl (by decide +kernel) (Nat.le_of_ble_eq_true rfl) (lv := [(0, .ref (ad st)), (1, .int (x))]) rfl ?_
  intro p e s m below meth c ls F hr hlocks hP hl
  have hS : va_S (wA ad N) s.heap s.heap [] := va_S.rf
  refine lv_iload_n F.1 F.2.1 dX5_has_0 rfl (lv_at hl 1 rfl) ?_
  refine lv_if_lt (tgt := 22) F.1 F.2.1 dX5_has_1 (by decide) (fun c1 => ?_) (fun c1 => ?_)
  · refine lv_iconst (v := 0) F.1 F.2.1 dX5_has_22 (by decide) ?_
    exact w_zret F hr hlocks hP hS (Or.inl rfl) dX5_has_23 ⟨rfl, by rw [if_neg (fun q => i_nle c1 q.1)]⟩
  · refine lv_iload_n F.1 F.2.1 dX5_has_4 rfl (lv_at hl 1 rfl) ?_
    refine lv_aload_n F.1 F.2.1 dX5_has_5 rfl (lv_at hl 0 rfl) ?_
    refine gf_X5_14 F hP hh hC (v := .int (n)) rfl dX5_has_6 ?_
    refine lv_icmp_ge (tgt := 22) F.1 F.2.1 dX5_has_9 (by decide) (fun c2 => ?_) (fun c2 => ?_)
    · refine lv_iconst (v := 0) F.1 F.2.1 dX5_has_22 (by decide) ?_
      exact w_zret F hr hlocks hP hS (Or.inl rfl) dX5_has_23 ⟨rfl, by rw [if_neg (fun q => i_nlt c2 q.2.1)]⟩
    · refine lv_iload_n F.1 F.2.1 dX5_has_12 rfl (lv_at hl 1 rfl) ?_
      refine lv_bipush (v := 20) F.1 F.2.1 dX5_has_13 (by decide) ?_
      refine lv_icmp_ge (tgt := 22) F.1 F.2.1 dX5_has_15 (by decide) (fun c3 => ?_) (fun c3 => ?_)
      · refine lv_iconst (v := 0) F.1 F.2.1 dX5_has_22 (by decide) ?_
        exact w_zret F hr hlocks hP hS (Or.inl rfl) dX5_has_23 ⟨rfl, by rw [if_neg (fun q => i_nlt c3 q.2.2)]⟩
      · refine lv_iconst (v := 1) F.1 F.2.1 dX5_has_18 (by decide) ?_
        refine lv_goto (tgt := 23) F.1 F.2.1 dX5_has_19 (by decide) ?_
        exact w_zret F hr hlocks hP hS (Or.inr rfl) dX5_has_23 ⟨rfl, by rw [if_pos ⟨i_le c1, i_lt c2, i_lt c3⟩]⟩
set_option maxRecDepth 20000 in
set_option maxHeartbeats 4000000 in
/-- what stands in a column -/
theorem c_X5_entry (l : Launch) (D : va_G) (Y : Nat → ClassId) (ad : Nat → Nat) (N : Nat) (hI : wI ad N) (C : Nat → va_E) (st : Nat) (hh : st + 6 < N) (f : Nat → Int32) (hs : isStair Y ad C st f) (k j : Nat) (hk : k < 20) (hkn : nI k < f 4) (hj : j < 5) : Met l yX5_entry (wm yX5_entry cX5_entry 3 (some .int)) { frames := 1, cells := 0, slots := 0, locals := 21 } (wPc D Y ad N [.ref (ad st), .int (nI k), .int (nI j)] C) (wQi D ad N (fun r C' => C' = C ∧ r = f (61 + 5 * k + j))) 0 0 (wA ad N) := by
  obtain ⟨qg, hg, hgq⟩ := hs.2.1
  obtain ⟨q, h1, h1q⟩ := hs.2.2 j hj
  refine wMet RX5 rfl (by decide +kernel) (Nat.le_of_ble_eq_true rfl) (lv := [(0, .ref (ad st)), (1, .int (nI k)), (2, .int (nI j))]) rfl ?_
  intro p e s m below meth c ls F hr hlocks hP hl
  have hS : va_S (wA ad N) s.heap s.heap [] := va_S.rf
  refine lv_aload_n F.1 F.2.1 dX5_entry_0 rfl (lv_at hl 0 rfl) ?_
  refine lv_iload_n F.1 F.2.1 dX5_entry_1 rfl (lv_at hl 1 rfl) ?_
  refine w_calli F hP hS (c_X5_has l D Y ad N hI _ st (by omega) _ _ hs.1 (nI k)) (cwVm 1 F.2.2.2.2.1 (fun _ h => h) mw_234 mw_243 mw_232 mw_233 mw_42 rfl rfl ydX5_has ⟨by decide, by decide⟩) (by omega) hs.1 rfl rfl hl.1 rfl (Nat.le_of_ble_eq_true rfl) dX5_entry_2 ⟨Nat.zero_le _, Nat.zero_le _⟩ (fun r C2 H locs hq hP hS => ?_)
  obtain ⟨hq1, hq2⟩ := hq; rw [hq1] at hP
  rw [(if_pos ⟨nI_pos' (by omega), hkn, nI_lt hk (by decide)⟩)] at hq2; subst hq2
  refine lv_if_eq (tgt := 17) F.1 F.2.1 dX5_entry_5 (by decide) (fun c1 => False.elim (absurd c1 (by decide))) (fun c1 => ?_)
  refine lv_iload_n F.1 F.2.1 dX5_entry_8 rfl (lv_at hl 2 rfl) ?_
  refine lv_if_lt (tgt := 17) F.1 F.2.1 dX5_entry_9 (by decide) (fun c2 => False.elim (nI_pos (by omega) c2)) (fun c2 => ?_)
  refine lv_iload_n F.1 F.2.1 dX5_entry_12 rfl (lv_at hl 2 rfl) ?_
  refine lv_iconst (v := 5) F.1 F.2.1 dX5_entry_13 (by decide) ?_
  refine lv_icmp_lt (tgt := 19) F.1 F.2.1 dX5_entry_14 (by decide) (fun c3 => ?_) (fun c3 => False.elim (c3 (nI_lt hj (by decide))))
  refine lv_aload_n F.1 F.2.1 dX5_entry_19 rfl (lv_at hl 0 rfl) ?_
  refine gf_X5_11 F hP (by omega) hs.1 (v := .ref (ad (st + 1))) rfl dX5_entry_20 ?_
  refine lv_iload_n F.1 F.2.1 dX5_entry_23 rfl (lv_at hl 2 rfl) ?_
  refine w_gald F hP (by omega) hg (k := j) rfl hj (Nat.le_of_ble_eq_true rfl) (v := ad (st + 2 + j)) (hgq j hj) dX5_entry_24 ?_
  refine lv_iload_n F.1 F.2.1 dX5_entry_25 rfl (lv_at hl 1 rfl) ?_
  refine w_iald F hP (by omega) h1 (k := k) rfl hk (Nat.le_of_ble_eq_true rfl) (v := f (61 + 5 * k + j)) (h1q k hk) dX5_entry_26 ?_
  exact w_iret F hr hlocks hP hS dX5_entry_27 ⟨rfl, rfl⟩
end
section
/-! HoopStairs$Hoop: a landing, a part, a run -/
set_option maxRecDepth 20000 in
/-- a copy -/
theorem c_X1_copyFrom (l : Launch) (D : va_G) (Y : Nat → ClassId) (ad : Nat → Nat) (N : Nat) (hI : wI ad N) (C : Nat → va_E) (h : Nat) (hh : h < N) (a5 a6 a7 a8 a9 a10 a11 a12 a13 g : Int32) (hC : C h = hpV a5 a6 a7 a8 a9 a10 a11 a12 a13 g) (h2 : Nat) (hh2 : h2 < N) (hne : h2 ≠ h) (b5 b6 b7 b8 b9 b10 b11 b12 b13 gb : Int32) (hC2 : C h2 = hpV b5 b6 b7 b8 b9 b10 b11 b12 b13 gb) (hz : b5 = 0 ∨ b5 = 1) : Met l yX1_copyFrom (wm yX1_copyFrom cX1_copyFrom 2 none) { frames := 0, cells := 0, slots := 0, locals := 0 } (wPc D Y ad N [.ref (ad h), .ref (ad h2)] C) (wQv D ad N (fun C' => C' = va_up C h (hpV b5 b6 b7 b8 b9 b10 b11 b12 b13 gb))) 0 0 (wA ad N) := by
  refine wMet RX1 rfl (by decide +kernel) (Nat.le_of_ble_eq_true rfl) (lv := [(0, .ref (ad h)), (1, .ref (ad h2))]) rfl ?_
  intro p e s m below meth c ls F hr hlocks hP hl
  have hS : va_S (wA ad N) s.heap s.heap [] := va_S.rf
  refine lv_aload_n F.1 F.2.1 dX1_copyFrom_0 rfl (lv_at hl 0 rfl) ?_
  refine lv_aload_n F.1 F.2.1 dX1_copyFrom_1 rfl (lv_at hl 1 rfl) ?_
  refine gf_X1_9 F hP hh2 hC2 (v := .int (b5)) rfl dX1_copyFrom_2 ?_
  refine pf_X1_9 F hI hP hS hh hC (hz := hz) (Nat.le_of_ble_eq_true rfl) (C1 := va_up C h (hpV b5 a6 a7 a8 a9 a10 a11 a12 a13 g)) (fun _ => rfl) dX1_copyFrom_5 (fun H locs hP hS => ?_)
  refine lv_aload_n F.1 F.2.1 dX1_copyFrom_8 rfl (lv_at hl 0 rfl) ?_
  refine lv_aload_n F.1 F.2.1 dX1_copyFrom_9 rfl (lv_at hl 1 rfl) ?_
  refine gf_X1_15 F hP hh2 ((va_up_ne _ _ hne).trans hC2) (v := .int (b6)) rfl dX1_copyFrom_10 ?_
  refine pf_X1_15 F hI hP hS hh (va_up_self _ _ _) (Nat.le_of_ble_eq_true rfl) (C1 := va_up C h (hpV b5 b6 a7 a8 a9 a10 a11 a12 a13 g)) up_self dX1_copyFrom_13 (fun H locs hP hS => ?_)
  refine lv_aload_n F.1 F.2.1 dX1_copyFrom_16 rfl (lv_at hl 0 rfl) ?_
  refine lv_aload_n F.1 F.2.1 dX1_copyFrom_17 rfl (lv_at hl 1 rfl) ?_
  refine gf_X1_19 F hP hh2 ((va_up_ne _ _ hne).trans hC2) (v := .int (b7)) rfl dX1_copyFrom_18 ?_
  refine pf_X1_19 F hI hP hS hh (va_up_self _ _ _) (Nat.le_of_ble_eq_true rfl) (C1 := va_up C h (hpV b5 b6 b7 a8 a9 a10 a11 a12 a13 g)) up_self dX1_copyFrom_21 (fun H locs hP hS => ?_)
  refine lv_aload_n F.1 F.2.1 dX1_copyFrom_24 rfl (lv_at hl 0 rfl) ?_
  refine lv_aload_n F.1 F.2.1 dX1_copyFrom_25 rfl (lv_at hl 1 rfl) ?_
  refine gf_X1_22 F hP hh2 ((va_up_ne _ _ hne).trans hC2) (v := .int (b8)) rfl dX1_copyFrom_26 ?_
  refine pf_X1_22 F hI hP hS hh (va_up_self _ _ _) (Nat.le_of_ble_eq_true rfl) (C1 := va_up C h (hpV b5 b6 b7 b8 a9 a10 a11 a12 a13 g)) up_self dX1_copyFrom_29 (fun H locs hP hS => ?_)
  refine lv_aload_n F.1 F.2.1 dX1_copyFrom_32 rfl (lv_at hl 0 rfl) ?_
  refine lv_aload_n F.1 F.2.1 dX1_copyFrom_33 rfl (lv_at hl 1 rfl) ?_
  refine gf_X1_25 F hP hh2 ((va_up_ne _ _ hne).trans hC2) (v := .int (b9)) rfl dX1_copyFrom_34 ?_
  refine pf_X1_25 F hI hP hS hh (va_up_self _ _ _) (Nat.le_of_ble_eq_true rfl) (C1 := va_up C h (hpV b5 b6 b7 b8 b9 a10 a11 a12 a13 g)) up_self dX1_copyFrom_37 (fun H locs hP hS => ?_)
  refine lv_aload_n F.1 F.2.1 dX1_copyFrom_40 rfl (lv_at hl 0 rfl) ?_
  refine lv_aload_n F.1 F.2.1 dX1_copyFrom_41 rfl (lv_at hl 1 rfl) ?_
  refine gf_X1_28 F hP hh2 ((va_up_ne _ _ hne).trans hC2) (v := .int (b10)) rfl dX1_copyFrom_42 ?_
  refine pf_X1_28 F hI hP hS hh (va_up_self _ _ _) (Nat.le_of_ble_eq_true rfl) (C1 := va_up C h (hpV b5 b6 b7 b8 b9 b10 a11 a12 a13 g)) up_self dX1_copyFrom_45 (fun H locs hP hS => ?_)
  refine lv_aload_n F.1 F.2.1 dX1_copyFrom_48 rfl (lv_at hl 0 rfl) ?_
  refine lv_aload_n F.1 F.2.1 dX1_copyFrom_49 rfl (lv_at hl 1 rfl) ?_
  refine gf_X1_31 F hP hh2 ((va_up_ne _ _ hne).trans hC2) (v := .int (b11)) rfl dX1_copyFrom_50 ?_
  refine pf_X1_31 F hI hP hS hh (va_up_self _ _ _) (Nat.le_of_ble_eq_true rfl) (C1 := va_up C h (hpV b5 b6 b7 b8 b9 b10 b11 a12 a13 g)) up_self dX1_copyFrom_53 (fun H locs hP hS => ?_)
  refine lv_aload_n F.1 F.2.1 dX1_copyFrom_56 rfl (lv_at hl 0 rfl) ?_
  refine lv_aload_n F.1 F.2.1 dX1_copyFrom_57 rfl (lv_at hl 1 rfl) ?_
  refine gf_X1_34 F hP hh2 ((va_up_ne _ _ hne).trans hC2) (v := .int (b12)) rfl dX1_copyFrom_58 ?_
  refine pf_X1_34 F hI hP hS hh (va_up_self _ _ _) (Nat.le_of_ble_eq_true rfl) (C1 := va_up C h (hpV b5 b6 b7 b8 b9 b10 b11 b12 a13 g)) up_self dX1_copyFrom_61 (fun H locs hP hS => ?_)
  refine lv_aload_n F.1 F.2.1 dX1_copyFrom_64 rfl (lv_at hl 0 rfl) ?_
  refine lv_aload_n F.1 F.2.1 dX1_copyFrom_65 rfl (lv_at hl 1 rfl) ?_
  refine gf_X1_37 F hP hh2 ((va_up_ne _ _ hne).trans hC2) (v := .int (b13)) rfl dX1_copyFrom_66 ?_
  refine pf_X1_37 F hI hP hS hh (va_up_self _ _ _) (Nat.le_of_ble_eq_true rfl) (C1 := va_up C h (hpV b5 b6 b7 b8 b9 b10 b11 b12 b13 g)) up_self dX1_copyFrom_69 (fun H locs hP hS => ?_)
  refine lv_aload_n F.1 F.2.1 dX1_copyFrom_72 rfl (lv_at hl 0 rfl) ?_
  refine lv_aload_n F.1 F.2.1 dX1_copyFrom_73 rfl (lv_at hl 1 rfl) ?_
  refine gf_X1_40 F hP hh2 ((va_up_ne _ _ hne).trans hC2) (v := .int (gb)) rfl dX1_copyFrom_74 ?_
  refine pf_X1_40 F hI hP hS hh (va_up_self _ _ _) (Nat.le_of_ble_eq_true rfl) (C1 := va_up C h (hpV b5 b6 b7 b8 b9 b10 b11 b12 b13 gb)) up_self dX1_copyFrom_77 (fun H locs hP hS => ?_)
  exact w_vret F hr hlocks hP hS dX1_copyFrom_80 rfl
set_option maxRecDepth 20000 in
/-- a landing -/
theorem c_X1_rollAlong (l : Launch) (D : va_G) (Y : Nat → ClassId) (ad : Nat → Nat) (N : Nat) (hI : wI ad N) (C : Nat → va_E) (h : Nat) (hh : h < N) (f : Nat → Int32) (g : Int32) (hC : C h = hpV (f 5) (f 6) (f 7) (f 8) (f 9) (f 10) (f 11) (f 12) (f 13) g) (x : Int32) (hL : okL f) : Met l yX1_rollAlong (wm yX1_rollAlong cX1_rollAlong 4 none) { frames := 2, cells := 0, slots := 0, locals := 38 } (wPc D Y ad N [.ref (ad h), .int (x), .int (f 2)] C) (wQv D ad N (fun C' => C' = va_up C h (hpR (T_lands x.toNatClampNeg f) g))) 0 0 (wA ad N) := by
  refine wMet RX1 rfl (by decide +kernel) (Nat.le_of_ble_eq_true rfl) (lv := [(0, .ref (ad h)), (1, .int (x)), (2, .int (f 2))]) rfl ?_
  intro p e s m below meth c ls F hr hlocks hP hl
  have hS : va_S (wA ad N) s.heap s.heap [] := va_S.rf
  refine lv_iconst (v := 0) F.1 F.2.1 dX1_rollAlong_0 (by decide) ?_
  refine lv_istore_n (lv' := [(3, .int (0)), (0, .ref (ad h)), (1, .int (x)), (2, .int (f 2))]) F.1 F.2.1 dX1_rollAlong_1 rfl hl (by decide) rfl (fun ls hl => ?_)
  refine w_loop (Inv := fun i ls C' => ∃ (k : Nat) (f1 : Nat → Int32), i = x.toNatClampNeg - k ∧ k ≤ x.toNatClampNeg ∧ lv_has ls 4 [(3, .int (nI k)), (0, .ref (ad h)), (1, .int x), (2, .int (f1 2))] ∧ C' = va_up C h (hpR f1 g) ∧ T_lands (x.toNatClampNeg - k) f1 = T_lands x.toNatClampNeg f ∧ okL f1) ?_ x.toNatClampNeg ⟨0, f, rfl, Nat.zero_le _, lv_sub hl [0, 1, 2, 3] rfl, up_id hC, rfl, hL⟩ hP hS
  intro i ih H locs ls C1 hInv hP hS
  obtain ⟨k, f1, hi, hk, hl, rfl, hT, hO⟩ := hInv
  refine lv_iload_n F.1 F.2.1 dX1_rollAlong_2 rfl (lv_at hl 0 rfl) ?_
  refine lv_iload_n F.1 F.2.1 dX1_rollAlong_3 rfl (lv_at hl 2 rfl) ?_
  refine lv_icmp_ge (tgt := 53) F.1 F.2.1 dX1_rollAlong_4 (by decide) (fun c1 => ?_) (fun c1 => ?_)
  · exact w_vret F hr hlocks hP hS dX1_rollAlong_53 (by rw [T_lands_e _ k f1 f hT (lc_out c1 hk)])
  · refine lv_aload_n F.1 F.2.1 dX1_rollAlong_7 rfl (lv_at hl 1 rfl) ?_
    refine lv_iconst (v := 0) F.1 F.2.1 dX1_rollAlong_8 (by decide) ?_
    refine lv_aload_n F.1 F.2.1 dX1_rollAlong_9 rfl (lv_at hl 1 rfl) ?_
    refine gf_X1_19 F hP hh (va_up_self _ _ _) (v := .int (f1 7)) rfl dX1_rollAlong_10 ?_
    refine lv_iload_n F.1 F.2.1 dX1_rollAlong_13 rfl (lv_at hl 3 rfl) ?_
    refine lv_isub F.1 F.2.1 dX1_rollAlong_14 ?_
    refine w_max F hl.1 mw_323 (by decide) (Nat.le_of_ble_eq_true rfl) ⟨Nat.zero_le _, Nat.zero_le _⟩ dX1_rollAlong_15 ?_
    refine lv_topi (fun v2 ev2 => ?_)
    have ev2 : v2 = slow (f1 7) (f1 2) := ev2.trans (okL_s hO)
    subst ev2
    refine pf_X1_19 F hI hP hS hh (va_up_self _ _ _) (Nat.le_of_ble_eq_true rfl) (C1 := va_up C h (hpV (f1 5) (f1 6) (slow (f1 7) (f1 2)) (f1 8) (f1 9) (f1 10) (f1 11) (f1 12) (f1 13) g)) up_self dX1_rollAlong_18 (fun H locs hP hS => ?_)
    refine lv_aload_n F.1 F.2.1 dX1_rollAlong_21 rfl (lv_at hl 1 rfl) ?_
    refine lv_dup F.1 F.2.1 dX1_rollAlong_22 rfl ?_
    refine gf_X1_25 F hP hh (va_up_self _ _ _) (v := .int (f1 9)) rfl dX1_rollAlong_23 ?_
    refine lv_aload_n F.1 F.2.1 dX1_rollAlong_26 rfl (lv_at hl 1 rfl) ?_
    refine gf_X1_25 F hP hh (va_up_self _ _ _) (v := .int (f1 9)) rfl dX1_rollAlong_27 ?_
    refine lv_iconst (v := 4) F.1 F.2.1 dX1_rollAlong_30 (by decide) ?_
    refine lv_idiv F.1 F.2.1 dX1_rollAlong_31 (by decide) ?_
    refine lv_isub F.1 F.2.1 dX1_rollAlong_32 ?_
    refine pf_X1_25 F hI hP hS hh (va_up_self _ _ _) (Nat.le_of_ble_eq_true rfl) (C1 := va_up C h (hpV (f1 5) (f1 6) (slow (f1 7) (f1 2)) (f1 8) ((f1 9) - ((f1 9) / 4)) (f1 10) (f1 11) (f1 12) (f1 13) g)) up_self dX1_rollAlong_33 (fun H locs hP hS => ?_)
    refine lv_aload_n F.1 F.2.1 dX1_rollAlong_36 rfl (lv_at hl 1 rfl) ?_
    refine lv_aload_n F.1 F.2.1 dX1_rollAlong_37 rfl (lv_at hl 1 rfl) ?_
    refine gf_X1_19 F hP hh (va_up_self _ _ _) (v := .int (slow (f1 7) (f1 2))) rfl dX1_rollAlong_38 ?_
    refine lv_bipush (v := 20) F.1 F.2.1 dX1_rollAlong_41 (by decide) ?_
    refine lv_idiv F.1 F.2.1 dX1_rollAlong_43 (by decide) ?_
    refine w_callv F hP hS (c_X1_rightItselfBy l D Y ad N hI _ h hh (f1 5) (f1 6) (slow (f1 7) (f1 2)) (f1 8) ((f1 9) - ((f1 9) / 4)) (f1 10) (f1 11) (f1 12) (f1 13) g (va_up_self _ _ _) ((slow (f1 7) (f1 2)) / 20) hO.2.2.2.2.1 hO.2.2.2.2.2 (okL_r hO).1 (okL_r hO).2) (cwVm 1 F.2.2.2.2.1 (fun _ h => h) mw_329 mw_326 mw_327 mw_328 mw_30 rfl rfl ydX1_rightItselfBy ⟨by decide, by decide⟩) hh (va_up_self _ _ _) rfl rfl hl.1 rfl (Nat.le_of_ble_eq_true rfl) dX1_rollAlong_44 ⟨Nat.zero_le _, Nat.zero_le _⟩ (fun C2 H locs hq hP hS => ?_)
    rw [uu] at hq; subst hq
    refine lv_iinc (v := (nI k) + 1) (lv' := [(3, .int ((nI k) + 1)), (0, .ref (ad h)), (1, .int (x)), (2, .int (f1 2))]) F.1 F.2.1 dX1_rollAlong_47 hl (k := 0) rfl rfl (by decide) rfl (fun ls hl => ?_)
    refine lv_goto (tgt := 2) F.1 F.2.1 dX1_rollAlong_50 (by decide) ?_
    exact ih _ (by have := lc_in c1 hk; omega) _ _ _ _ ⟨k + 1, T_land1 f1, rfl, lc_in c1 hk, (by rw [nI_succ]; exact lv_sub hl [0, 1, 2, 3] rfl), rfl, T_lands_s _ k f1 f hT (lc_in c1 hk), okL_land hO⟩ hP hS
end
section
/-! A step of a run: what it leaves, and within what it stays. -/
theorem upd_s {f : Nat → Int32} {k : Nat} {x : Int32} : upd f k x k = x := by simp [upd]
theorem upd_n {f : Nat → Int32} {k : Nat} {x : Int32} {j : Nat} (h : j ≠ k) : upd f k x j = f j := by simp [upd, h]
/-- the settings, the number of parts, the parts' values -/
def okS (f : Nat → Int32) : Prop :=
  (10 ≤ (f 0).toInt ∧ (f 0).toInt ≤ 99) ∧ (0 ≤ (f 1).toInt ∧ (f 1).toInt ≤ 20) ∧ (0 ≤ (f 2).toInt ∧ (f 2).toInt ≤ 20) ∧ (1 ≤ (f 3).toInt ∧ (f 3).toInt ≤ 30) ∧ (0 ≤ (f 4).toInt ∧ (f 4).toInt ≤ 20) ∧
  ∀ k, k < 20 → 0 ≤ (f (62 + 5 * k)).toInt ∧ (f (62 + 5 * k)).toInt ≤ 99
/-- a hoop in its run -/
def okH (B : Int) (f : Nat → Int32) : Prop :=
  (0 ≤ (f 7).toInt ∧ (f 7).toInt ≤ 99) ∧ (-B ≤ (f 8).toInt ∧ (f 8).toInt ≤ B) ∧ (0 ≤ (f 9).toInt ∧ (f 9).toInt ≤ 99) ∧ (0 ≤ (f 10).toInt ∧ (f 10).toInt ≤ (f 4).toInt) ∧ (0 ≤ (f 11).toInt ∧ (f 11).toInt ≤ 4)
theorem mn99_in {x : Int32} (h : 0 ≤ x.toInt) : 0 ≤ (mn99 x).toInt ∧ (mn99 x).toInt ≤ 99 := by
  unfold mn99
  by_cases k : x < 99
  · have k' := Int32.lt_iff_toInt_lt.mp k
    have e : (99 : Int32).toInt = 99 := rfl
    rw [if_pos k]; omega
  · rw [if_neg k]
    exact ⟨by decide, by decide⟩
theorem T_drop_fr {h : Int32} {f : Nat → Int32} {j : Nat} (h7 : j ≠ 7) (h8 : j ≠ 8) (h9 : j ≠ 9) : T_drop h f j = f j := by
  unfold T_drop
  rw [upd_n h8, upd_n h9, upd_n h7]
theorem T_land1_fr {f : Nat → Int32} {j : Nat} (h7 : j ≠ 7) (h8 : j ≠ 8) (h9 : j ≠ 9) : T_land1 f j = f j := by
  unfold T_land1
  rw [upd_n h8, upd_n h9, upd_n h7]
theorem T_lands_fr (n : Nat) : ∀ {f : Nat → Int32} {j : Nat}, j ≠ 7 → j ≠ 8 → j ≠ 9 → T_lands n f j = f j := by
  induction n with
  | zero => intro f j _ _ _; rfl
  | succ n ih =>
    intro f j h7 h8 h9
    show T_lands n (T_land1 f) j = f j
    rw [ih h7 h8 h9, T_land1_fr h7 h8 h9]
theorem T_meet_fr {k : Nat} {f : Nat → Int32} {j : Nat} (h7 : j ≠ 7) (h8 : j ≠ 8) (h9 : j ≠ 9) : (T_meet k f).1 j = f j := by
  unfold T_meet
  by_cases a : kindAt f k = 0
  · rw [if_pos a]; exact T_drop_fr h7 h8 h9
  · rw [if_neg a]
    by_cases b : kindAt f k = 1
    · rw [if_pos b]; exact T_lands_fr _ h7 h8 h9
    · rw [if_neg b]
theorem T_meet_how (k : Nat) (f : Nat → Int32) : (T_meet k f).2 = 0 ∨ (T_meet k f).2 = 2 ∨ (T_meet k f).2 = 3 := by
  unfold T_meet
  by_cases a : kindAt f k = 0
  · rw [if_pos a]; exact Or.inl rfl
  · rw [if_neg a]
    by_cases b : kindAt f k = 1
    · rw [if_pos b]
      by_cases d : T_lands (valAt f k).toNatClampNeg f 7 = 0
      · show (if T_lands (valAt f k).toNatClampNeg f 7 = 0 then (3 : Int32) else 0) = 0 ∨ _
        rw [if_pos d]; exact Or.inr (Or.inr rfl)
      · show (if T_lands (valAt f k).toNatClampNeg f 7 = 0 then (3 : Int32) else 0) = 0 ∨ _
        rw [if_neg d]; exact Or.inl rfl
    · rw [if_neg b]
      by_cases d : valAt f k < f 6 + f 9 / 4
      · show (if valAt f k < f 6 + f 9 / 4 then (2 : Int32) else 0) = 0 ∨ _
        rw [if_pos d]; exact Or.inr (Or.inl rfl)
      · show (if valAt f k < f 6 + f 9 / 4 then (2 : Int32) else 0) = 0 ∨ _
        rw [if_neg d]; exact Or.inl rfl
theorem T_pass_fr {k : Nat} {f : Nat → Int32} {g : Int32} {j : Nat} (h7 : j ≠ 7) (h8 : j ≠ 8) (h9 : j ≠ 9) (h10 : j ≠ 10) : (T_pass k f g).1 j = f j := by
  unfold T_pass
  by_cases a : (T_meet k f).2 = 0
  · rw [if_pos a]
    by_cases b : f 0 ≤ iabs ((T_meet k f).1 8)
    · rw [if_pos b]; exact T_meet_fr h7 h8 h9
    · rw [if_neg b]
      show upd (T_meet k f).1 10 (f 10 + 1) j = f j
      rw [upd_n h10]; exact T_meet_fr h7 h8 h9
  · rw [if_neg a]; exact T_meet_fr h7 h8 h9
theorem T_step_fr {f : Nat → Int32} {g : Int32} {j : Nat} (h7 : j ≠ 7) (h8 : j ≠ 8) (h9 : j ≠ 9) (h10 : j ≠ 10) (h11 : j ≠ 11) : (T_step f g).1 j = f j := by
  unfold T_step
  by_cases a : f 10 < f 4
  · rw [if_pos a]
    by_cases b : (T_pass (f 10).toNatClampNeg f g).2.2 = 0
    · rw [if_pos b]
      by_cases d : f 10 + 1 < f 4
      · rw [if_pos d]; exact T_pass_fr h7 h8 h9 h10
      · rw [if_neg d]
        show upd _ 11 4 j = f j
        rw [upd_n h11]; exact T_pass_fr h7 h8 h9 h10
    · rw [if_neg b]
      show upd _ 11 _ j = f j
      rw [upd_n h11]; exact T_pass_fr h7 h8 h9 h10
  · rw [if_neg a]
    show upd f 11 4 j = f j
    rw [upd_n h11]
theorem okH_okL {B : Int} {f : Nat → Int32} (hB : B ≤ 1000000000) (hs : okS f) (h : okH B f) : okL f := by
  obtain ⟨a1, a2, a3, a4, a5⟩ := h
  obtain ⟨s0, s1, s2, s3, s4, s5⟩ := hs
  exact ⟨a1.1, a1.2, s2.1, s2.2, by omega, by omega⟩
/-- a landing keeps speed, lean and wobble within what they were -/
theorem land1_in {f : Nat → Int32} (h : okL f) (h9 : 0 ≤ (f 9).toInt ∧ (f 9).toInt ≤ 99) :
    (0 ≤ (T_land1 f 7).toInt ∧ (T_land1 f 7).toInt ≤ 99) ∧ (0 ≤ (T_land1 f 9).toInt ∧ (T_land1 f 9).toInt ≤ 99) ∧
    (0 ≤ (f 8).toInt → 0 ≤ (T_land1 f 8).toInt ∧ (T_land1 f 8).toInt ≤ (f 8).toInt) ∧ ((f 8).toInt < 0 → (f 8).toInt ≤ (T_land1 f 8).toInt ∧ (T_land1 f 8).toInt ≤ 0) := by
  have hs := slow_in h.1 h.2.1 h.2.2.1 h.2.2.2.1
  have hr := okL_r h
  have e7 : T_land1 f 7 = slow (f 7) (f 2) := by unfold T_land1; rw [upd_n (by decide), upd_n (by decide), upd_s]
  have e9 : T_land1 f 9 = f 9 - f 9 / 4 := by unfold T_land1; rw [upd_n (by decide), upd_s]
  have e8 : T_land1 f 8 = nearer (f 8) (slow (f 7) (f 2) / 20) := by unfold T_land1; rw [upd_s]
  have hn := nearer_in h.2.2.2.2.1 h.2.2.2.2.2 hr.1 hr.2
  have d4 : (f 9 / 4).toInt = (f 9).toInt / 4 := i_div4 h9.1
  have s9 : (f 9 - f 9 / 4).toInt = (f 9).toInt - (f 9 / 4).toInt := i_sub (by omega) (by omega)
  rw [e7, e8, e9]
  refine ⟨hs, ?_, hn⟩
  omega
theorem lands_in (n : Nat) : ∀ {B : Int} {f : Nat → Int32}, okL f → (0 ≤ (f 9).toInt ∧ (f 9).toInt ≤ 99) → (-B ≤ (f 8).toInt ∧ (f 8).toInt ≤ B) →
    (0 ≤ (T_lands n f 7).toInt ∧ (T_lands n f 7).toInt ≤ 99) ∧ (0 ≤ (T_lands n f 9).toInt ∧ (T_lands n f 9).toInt ≤ 99) ∧ (-B ≤ (T_lands n f 8).toInt ∧ (T_lands n f 8).toInt ≤ B) := by
  induction n with
  | zero => intro B f h h9 h8; exact ⟨⟨h.1, h.2.1⟩, h9, h8⟩
  | succ n ih =>
    intro B f h h9 h8
    have q := land1_in h h9
    exact ih (okL_land h) q.2.1 (by
      by_cases k : 0 ≤ (f 8).toInt
      · have := q.2.2.1 k; omega
      · have := q.2.2.2 (by omega); omega)
theorem i_mul4 {x : Int32} (h1 : 0 ≤ x.toInt) (h2 : x.toInt ≤ 99) : (x * 4).toInt = x.toInt * 4 := by
  have e : (4 : Int32).toInt = 4 := rfl
  have h := i_mul (a := x) (b := 4) (by rw [e]; omega) (by rw [e]; omega)
  rw [h, e]
theorem i_mulN {x y : Int32} (h1 : 0 ≤ x.toInt) (h2 : x.toInt ≤ 20) (h3 : 0 ≤ y.toInt) (h4 : y.toInt ≤ 99) : (x * y).toInt = x.toInt * y.toInt ∧ 0 ≤ x.toInt * y.toInt ∧ x.toInt * y.toInt ≤ 1980 := by
  have a1 : 0 ≤ x.toInt * y.toInt := Int.mul_nonneg h1 h3
  have a2 : x.toInt * y.toInt ≤ 20 * 99 := Int.mul_le_mul h2 h4 h3 (by omega)
  exact ⟨i_mul (by omega) (by omega), a1, by omega⟩
theorem drop_in {B : Int} {v : Int32} {f : Nat → Int32} (hB : B ≤ 1000000000) (hs : okS f) (h : okH B f) (hv : 0 ≤ v.toInt ∧ v.toInt ≤ 99) :
    (0 ≤ (T_drop v f 7).toInt ∧ (T_drop v f 7).toInt ≤ 99) ∧ (0 ≤ (T_drop v f 9).toInt ∧ (T_drop v f 9).toInt ≤ 99) ∧ (-(B + 25) ≤ (T_drop v f 8).toInt ∧ (T_drop v f 8).toInt ≤ B + 25) := by
  obtain ⟨a1, a2, a3, a4, a5⟩ := h
  obtain ⟨s0, s1, s2, s3, s4, s5⟩ := hs
  have e7 : T_drop v f 7 = mn99 (f 7 + v * 4) := by unfold T_drop; rw [upd_n (by decide), upd_n (by decide), upd_s]
  have e9 : T_drop v f 9 = mn99 (f 9 + f 1 * v) := by unfold T_drop; rw [upd_n (by decide), upd_s]
  have e8 : T_drop v f 8 = f 8 + (if f 10 - f 10 / 2 * 2 = 0 then mn99 (f 9 + f 1 * v) / 4 else -(mn99 (f 9 + f 1 * v) / 4)) := by unfold T_drop; rw [upd_s]
  have m4 := i_mul4 hv.1 hv.2
  obtain ⟨m1, m2, m3⟩ := i_mulN s1.1 s1.2 hv.1 hv.2
  have p7 : (f 7 + v * 4).toInt = (f 7).toInt + (v * 4).toInt := i_add (by omega) (by omega)
  have p9 : (f 9 + f 1 * v).toInt = (f 9).toInt + (f 1 * v).toInt := i_add (by omega) (by omega)
  have q7 := mn99_in (x := f 7 + v * 4) (by omega)
  have q9 := mn99_in (x := f 9 + f 1 * v) (by omega)
  have d4 : (mn99 (f 9 + f 1 * v) / 4).toInt = (mn99 (f 9 + f 1 * v)).toInt / 4 := i_div4 q9.1
  have n4 : (-(mn99 (f 9 + f 1 * v) / 4)).toInt = -(mn99 (f 9 + f 1 * v) / 4).toInt := i_neg (by omega)
  rw [e7, e8, e9]
  refine ⟨q7, q9, ?_⟩
  by_cases c : f 10 - f 10 / 2 * 2 = 0
  · rw [if_pos c, i_add (by omega) (by omega)]; omega
  · rw [if_neg c, i_add (by omega) (by omega)]; omega
theorem meet_in {B : Int} {k : Nat} {f : Nat → Int32} (hB : B ≤ 1000000000) (hs : okS f) (h : okH B f) (hk : k < 20) (h11 : f 11 = 0) :
    (0 ≤ ((T_meet k f).1 7).toInt ∧ ((T_meet k f).1 7).toInt ≤ 99) ∧ (0 ≤ ((T_meet k f).1 9).toInt ∧ ((T_meet k f).1 9).toInt ≤ 99) ∧ (-(B + 25) ≤ ((T_meet k f).1 8).toInt ∧ ((T_meet k f).1 8).toInt ≤ B + 25) := by
  unfold T_meet
  by_cases a : kindAt f k = 0
  · rw [if_pos a]; exact drop_in hB hs h (hs.2.2.2.2.2 k hk)
  · rw [if_neg a]
    by_cases b : kindAt f k = 1
    · rw [if_pos b]
      have q := lands_in (valAt f k).toNatClampNeg (okH_okL hB hs h) h.2.2.1 h.2.1
      refine ⟨q.1, q.2.1, ?_⟩
      have := q.2.2
      show -(B + 25) ≤ (T_lands (valAt f k).toNatClampNeg f 8).toInt ∧ (T_lands (valAt f k).toNatClampNeg f 8).toInt ≤ B + 25
      omega
    · rw [if_neg b]
      exact ⟨h.1, h.2.2.1, by have := h.2.1; show -(B + 25) ≤ (f 8).toInt ∧ (f 8).toInt ≤ B + 25; omega⟩
theorem nI_rd {x : Int32} {M : Nat} (h1 : 0 ≤ x.toInt) (h2 : x.toInt ≤ M) : x = nI x.toNatClampNeg ∧ x.toNatClampNeg ≤ M ∧ (x.toNatClampNeg : Int) = x.toInt := by
  have h3 : x.toNatClampNeg = x.toInt.toNat := rfl
  have h4 := x.toInt_lt
  have h5 : (x.toNatClampNeg : Int) = x.toInt := by omega
  refine ⟨Int32.toInt_inj.mp ?_, by omega, h5⟩
  rw [nI_toInt (by omega)]
  omega
theorem okH_step {B : Int} {f : Nat → Int32} {g : Int32} (hB : B ≤ 900000000) (hs : okS f) (h : okH B f) (h11 : f 11 = 0) : okH (B + 25) (T_step f g).1 := by
  obtain ⟨s0, s1, s2, s3, s4, s5⟩ := hs
  have hs : okS f := ⟨s0, s1, s2, s3, s4, s5⟩
  obtain ⟨a1, a2, a3, a4, a5⟩ := id h
  have z : (0 : Int32).toInt = 0 := rfl
  have f4 : ∀ {j}, j ≠ 7 → j ≠ 8 → j ≠ 9 → j ≠ 10 → j ≠ 11 → (T_step f g).1 j = f j := fun p q r t u => T_step_fr p q r t u
  unfold T_step
  by_cases a : f 10 < f 4
  · rw [if_pos a]
    have a' := Int32.lt_iff_toInt_lt.mp a
    obtain ⟨e10, l10, i10⟩ := nI_rd (x := f 10) (M := 20) a4.1 (by omega)
    generalize hk : (f 10).toNatClampNeg = k at e10 l10 i10
    have hk20 : k < 20 := by omega
    have m := meet_in (by omega) hs h hk20 h11
    have m10 : (T_meet k f).1 10 = f 10 := T_meet_fr (by decide) (by decide) (by decide)
    have m4 : (T_meet k f).1 4 = f 4 := T_meet_fr (by decide) (by decide) (by decide)
    have m11 : (T_meet k f).1 11 = f 11 := T_meet_fr (by decide) (by decide) (by decide)
    have p1 : (f 10 + 1).toInt = (f 10).toInt + 1 := i_add (by rw [show (1 : Int32).toInt = 1 from rfl]; omega) (by rw [show (1 : Int32).toInt = 1 from rfl]; omega)
    -- what T_pass leaves
    unfold T_pass
    by_cases b : (T_meet k f).2 = 0
    · rw [if_pos b]
      by_cases d : f 0 ≤ iabs ((T_meet k f).1 8)
      · rw [if_pos d]
        rw [if_neg (show ¬ (1 : Int32) = 0 by decide)]
        refine ⟨?_, ?_, ?_, ?_, ?_⟩
        · show 0 ≤ (upd (T_meet k f).1 11 1 7).toInt ∧ (upd (T_meet k f).1 11 1 7).toInt ≤ 99
          rw [upd_n (by decide)]; exact m.1
        · show _ ≤ (upd (T_meet k f).1 11 1 8).toInt ∧ (upd (T_meet k f).1 11 1 8).toInt ≤ _
          rw [upd_n (by decide)]; exact m.2.2
        · show 0 ≤ (upd (T_meet k f).1 11 1 9).toInt ∧ (upd (T_meet k f).1 11 1 9).toInt ≤ 99
          rw [upd_n (by decide)]; exact m.2.1
        · show 0 ≤ (upd (T_meet k f).1 11 1 10).toInt ∧ (upd (T_meet k f).1 11 1 10).toInt ≤ (upd (T_meet k f).1 11 1 4).toInt
          rw [upd_n (by decide), upd_n (by decide), m10, m4]; exact a4
        · show 0 ≤ (upd (T_meet k f).1 11 1 11).toInt ∧ (upd (T_meet k f).1 11 1 11).toInt ≤ 4
          rw [upd_s]; exact ⟨by decide, by decide⟩
      · rw [if_neg d]
        rw [if_pos (show (0 : Int32) = 0 from rfl)]
        by_cases q : f 10 + 1 < f 4
        · rw [if_pos q]
          have q' := Int32.lt_iff_toInt_lt.mp q
          refine ⟨?_, ?_, ?_, ?_, ?_⟩
          · show 0 ≤ (upd (T_meet k f).1 10 (f 10 + 1) 7).toInt ∧ (upd (T_meet k f).1 10 (f 10 + 1) 7).toInt ≤ 99
            rw [upd_n (by decide)]; exact m.1
          · show _ ≤ (upd (T_meet k f).1 10 (f 10 + 1) 8).toInt ∧ (upd (T_meet k f).1 10 (f 10 + 1) 8).toInt ≤ _
            rw [upd_n (by decide)]; exact m.2.2
          · show 0 ≤ (upd (T_meet k f).1 10 (f 10 + 1) 9).toInt ∧ (upd (T_meet k f).1 10 (f 10 + 1) 9).toInt ≤ 99
            rw [upd_n (by decide)]; exact m.2.1
          · show 0 ≤ (upd (T_meet k f).1 10 (f 10 + 1) 10).toInt ∧ (upd (T_meet k f).1 10 (f 10 + 1) 10).toInt ≤ (upd (T_meet k f).1 10 (f 10 + 1) 4).toInt
            rw [upd_s, upd_n (by decide), m4, p1]; omega
          · show 0 ≤ (upd (T_meet k f).1 10 (f 10 + 1) 11).toInt ∧ (upd (T_meet k f).1 10 (f 10 + 1) 11).toInt ≤ 4
            rw [upd_n (by decide), m11]; exact a5
        · rw [if_neg q]
          rw [Int32.lt_iff_toInt_lt] at q
          refine ⟨?_, ?_, ?_, ?_, ?_⟩
          · show 0 ≤ (upd (upd (T_meet k f).1 10 (f 10 + 1)) 11 4 7).toInt ∧ (upd (upd (T_meet k f).1 10 (f 10 + 1)) 11 4 7).toInt ≤ 99
            rw [upd_n (by decide), upd_n (by decide)]; exact m.1
          · show _ ≤ (upd (upd (T_meet k f).1 10 (f 10 + 1)) 11 4 8).toInt ∧ (upd (upd (T_meet k f).1 10 (f 10 + 1)) 11 4 8).toInt ≤ _
            rw [upd_n (by decide), upd_n (by decide)]; exact m.2.2
          · show 0 ≤ (upd (upd (T_meet k f).1 10 (f 10 + 1)) 11 4 9).toInt ∧ (upd (upd (T_meet k f).1 10 (f 10 + 1)) 11 4 9).toInt ≤ 99
            rw [upd_n (by decide), upd_n (by decide)]; exact m.2.1
          · show 0 ≤ (upd (upd (T_meet k f).1 10 (f 10 + 1)) 11 4 10).toInt ∧ (upd (upd (T_meet k f).1 10 (f 10 + 1)) 11 4 10).toInt ≤ (upd (upd (T_meet k f).1 10 (f 10 + 1)) 11 4 4).toInt
            rw [upd_n (by decide), upd_s, upd_n (by decide), upd_n (by decide), m4, p1]; omega
          · show 0 ≤ (upd (upd (T_meet k f).1 10 (f 10 + 1)) 11 4 11).toInt ∧ (upd (upd (T_meet k f).1 10 (f 10 + 1)) 11 4 11).toInt ≤ 4
            rw [upd_s]; exact ⟨by decide, by decide⟩
    · rw [if_neg b]
      rw [if_neg b]
      refine ⟨?_, ?_, ?_, ?_, ?_⟩
      · show 0 ≤ (upd (T_meet k f).1 11 (T_meet k f).2 7).toInt ∧ (upd (T_meet k f).1 11 (T_meet k f).2 7).toInt ≤ 99
        rw [upd_n (by decide)]; exact m.1
      · show _ ≤ (upd (T_meet k f).1 11 (T_meet k f).2 8).toInt ∧ (upd (T_meet k f).1 11 (T_meet k f).2 8).toInt ≤ _
        rw [upd_n (by decide)]; exact m.2.2
      · show 0 ≤ (upd (T_meet k f).1 11 (T_meet k f).2 9).toInt ∧ (upd (T_meet k f).1 11 (T_meet k f).2 9).toInt ≤ 99
        rw [upd_n (by decide)]; exact m.2.1
      · show 0 ≤ (upd (T_meet k f).1 11 (T_meet k f).2 10).toInt ∧ (upd (T_meet k f).1 11 (T_meet k f).2 10).toInt ≤ (upd (T_meet k f).1 11 (T_meet k f).2 4).toInt
        rw [upd_n (by decide), upd_n (by decide), m10, m4]; exact a4
      · show 0 ≤ (upd (T_meet k f).1 11 (T_meet k f).2 11).toInt ∧ (upd (T_meet k f).1 11 (T_meet k f).2 11).toInt ≤ 4
        rw [upd_s]
        rcases T_meet_how k f with q | q | q
        · rw [q]; exact ⟨by decide, by decide⟩
        · rw [q]; exact ⟨by decide, by decide⟩
        · rw [q]; exact ⟨by decide, by decide⟩
  · rw [if_neg a]
    refine ⟨?_, ?_, ?_, ?_, ?_⟩
    · show 0 ≤ (upd f 11 4 7).toInt ∧ (upd f 11 4 7).toInt ≤ 99
      rw [upd_n (by decide)]; exact a1
    · show _ ≤ (upd f 11 4 8).toInt ∧ (upd f 11 4 8).toInt ≤ _
      rw [upd_n (by decide)]; omega
    · show 0 ≤ (upd f 11 4 9).toInt ∧ (upd f 11 4 9).toInt ≤ 99
      rw [upd_n (by decide)]; exact a3
    · show 0 ≤ (upd f 11 4 10).toInt ∧ (upd f 11 4 10).toInt ≤ (upd f 11 4 4).toInt
      rw [upd_n (by decide), upd_n (by decide)]; exact a4
    · show 0 ≤ (upd f 11 4 11).toInt ∧ (upd f 11 4 11).toInt ≤ 4
      rw [upd_s]; exact ⟨by decide, by decide⟩
end
section
/-! HoopStairs$Hoop: a part met, what is behind it, a run -/
theorem isStair_up {Y : Nat → ClassId} {ad : Nat → Nat} {C : Nat → va_E} {st h : Nat} {e : va_E} {f f1 : Nat → Int32} (hs : isStair Y ad C st f) (hd : h < st ∨ st + 7 ≤ h) (h4 : f1 4 = f 4) (hf : ∀ q, 61 ≤ q → f1 q = f q) : isStair Y ad (va_up C h e) st f1 := by
  obtain ⟨h1, ⟨q, h2, h2q⟩, h3⟩ := hs
  refine ⟨by rw [va_up_ne _ _ (by omega), h1, h4], ⟨q, by rw [va_up_ne _ _ (by omega), h2], h2q⟩, fun i hi => ?_⟩
  obtain ⟨r, h5, h6⟩ := h3 i hi
  exact ⟨r, by rw [va_up_ne _ _ (by omega), h5], fun k hk => by rw [h6 k hk, hf _ (by omega)]⟩
theorem isSett_up {Y : Nat → ClassId} {ad : Nat → Nat} {C : Nat → va_E} {se h : Nat} {e : va_E} {f f1 : Nat → Int32} (hs : isSett Y ad C se f) (hd : h < se ∨ se + 2 ≤ h) (hf : ∀ q, q < 4 → f1 q = f q) : isSett Y ad (va_up C h e) se f1 := by
  obtain ⟨h1, q, h2, h3⟩ := hs
  exact ⟨by rw [va_up_ne _ _ (by omega), h1], q, by rw [va_up_ne _ _ (by omega), h2], fun i hi => by rw [h3 i hi, hf i hi]⟩
/-- what is behind a part -/
def gbE (f : Nat → Int32) (g : Int32) : va_E :=
  if f 11 = 0 then (if f 0 ≤ iabs (f 8) then hpR (upd f 11 1) (if g < iabs (f 8) then iabs (f 8) else g) else if f 10 + 1 < f 4 then hpR (upd f 10 (f 10 + 1)) (if g < iabs (f 8) then iabs (f 8) else g) else hpR (upd (upd f 10 (f 10 + 1)) 11 4) (if g < iabs (f 8) then iabs (f 8) else g)) else hpR f g
theorem gb_step {f : Nat → Int32} {g : Int32} (h11 : f 11 = 0) (hk : f 10 < f 4) : gbE (upd (T_meet (f 10).toNatClampNeg f).1 11 (T_meet (f 10).toNatClampNeg f).2) g = hpR (T_step f g).1 (T_step f g).2 := by
  have m10 : (T_meet (f 10).toNatClampNeg f).1 10 = f 10 := T_meet_fr (by decide) (by decide) (by decide)
  have m4 : (T_meet (f 10).toNatClampNeg f).1 4 = f 4 := T_meet_fr (by decide) (by decide) (by decide)
  have m0 : (T_meet (f 10).toNatClampNeg f).1 0 = f 0 := T_meet_fr (by decide) (by decide) (by decide)
  have m11 : (T_meet (f 10).toNatClampNeg f).1 11 = f 11 := T_meet_fr (by decide) (by decide) (by decide)
  unfold gbE T_step
  rw [if_pos hk]
  unfold T_pass
  rw [upd_s, upd_n (show 0 ≠ 11 by decide), upd_n (show 8 ≠ 11 by decide), upd_n (show 10 ≠ 11 by decide), upd_n (show 4 ≠ 11 by decide), m0, m10, m4]
  generalize (f 10).toNatClampNeg = k at m10 m4 m0 m11 ⊢
  by_cases a : (T_meet k f).2 = 0
  · simp only [if_pos a]
    by_cases b : f 0 ≤ iabs ((T_meet k f).1 8)
    · simp only [if_pos b]
      rw [if_neg (show ¬ (1 : Int32) = 0 by decide)]
      simp [upd]
    · simp only [if_neg b]
      by_cases c : f 10 + 1 < f 4
      · simp [c, upd, a, m11, h11, hpR, hpV]
      · simp [c, upd, hpR, hpV]
  · simp only [if_neg a]
theorem has_iff {x n : Int32} (h1 : 0 ≤ x.toInt) (h2 : n.toInt ≤ 20) : (0 ≤ x ∧ x < n ∧ x < 20) ↔ x < n := by
  have z : (0 : Int32).toInt = 0 := rfl
  have t : (20 : Int32).toInt = 20 := rfl
  rw [Int32.le_iff_toInt_le, Int32.lt_iff_toInt_lt, Int32.lt_iff_toInt_lt, z, t]
  omega
theorem meet_d {k : Nat} {f : Nat → Int32} {g : Int32} (k1 : kindAt f k = 0) (h11 : f 11 = 0) : hpV (f 5) (f 6) (mn99 (f 7 + valAt f k * 4)) (f 8 + (if f 10 - f 10 / 2 * 2 = 0 then mn99 (f 9 + f 1 * valAt f k) / 4 else -(mn99 (f 9 + f 1 * valAt f k) / 4))) (mn99 (f 9 + f 1 * valAt f k)) (f 10) (f 11) (f 12) (f 13) g = hpR (upd (T_meet k f).1 11 (T_meet k f).2) g := by
  unfold T_meet
  rw [if_pos k1]
  simp [T_drop, upd, h11]
theorem meet_l {k : Nat} {f : Nat → Int32} {g w : Int32} (k1 : ¬ kindAt f k = 0) (k2 : kindAt f k = 1) (hw : w = if T_lands (valAt f k).toNatClampNeg f 7 = 0 then 3 else 0) : hpV (T_lands (valAt f k).toNatClampNeg f 5) (T_lands (valAt f k).toNatClampNeg f 6) (T_lands (valAt f k).toNatClampNeg f 7) (T_lands (valAt f k).toNatClampNeg f 8) (T_lands (valAt f k).toNatClampNeg f 9) (T_lands (valAt f k).toNatClampNeg f 10) w (T_lands (valAt f k).toNatClampNeg f 12) (T_lands (valAt f k).toNatClampNeg f 13) g = hpR (upd (T_meet k f).1 11 (T_meet k f).2) g := by
  unfold T_meet
  rw [if_neg k1, if_pos k2]
  simp [upd, hw]
theorem meet_g {k : Nat} {f : Nat → Int32} {g w : Int32} (k1 : ¬ kindAt f k = 0) (k2 : ¬ kindAt f k = 1) (hw : w = if valAt f k < f 6 + f 9 / 4 then 2 else 0) : hpV (f 5) (f 6) (f 7) (f 8) (f 9) (f 10) w (f 12) (f 13) g = hpR (upd (T_meet k f).1 11 (T_meet k f).2) g := by
  unfold T_meet
  rw [if_neg k1, if_neg k2]
  simp [upd, hw]
theorem T_roll_e (n j : Nat) (f1 f : Nat → Int32) (g1 g : Int32) (h : T_roll (n - j) f1 g1 = T_roll n f g) (hk : n ≤ j ∨ ¬ f1 11 = 0) : hpR f1 g1 = hpR (T_roll n f g).1 (T_roll n f g).2 := by
  rw [← h]
  cases hm : n - j with
  | zero => rfl
  | succ m =>
    rcases hk with q | q
    · omega
    · show _ = hpR (if f1 11 = 0 then T_roll m (T_step f1 g1).1 (T_step f1 g1).2 else (f1, g1)).1 (if f1 11 = 0 then T_roll m (T_step f1 g1).1 (T_step f1 g1).2 else (f1, g1)).2
      rw [if_neg q]
theorem T_roll_s (n j : Nat) (f1 f : Nat → Int32) (g1 g : Int32) (h : T_roll (n - j) f1 g1 = T_roll n f g) (hk : j < n) (h11 : f1 11 = 0) : T_roll (n - (j + 1)) (T_step f1 g1).1 (T_step f1 g1).2 = T_roll n f g := by
  rw [← h, show n - j = n - (j + 1) + 1 by omega]
  show _ = if f1 11 = 0 then T_roll (n - (j + 1)) (T_step f1 g1).1 (T_step f1 g1).2 else (f1, g1)
  rw [if_pos h11]
theorem okS_of {f f1 : Nat → Int32} (h : okS f) (hf : ∀ q, q ≠ 7 → q ≠ 8 → q ≠ 9 → q ≠ 10 → q ≠ 11 → f1 q = f q) : okS f1 := by
  obtain ⟨s0, s1, s2, s3, s4, s5⟩ := h
  unfold okS
  rw [hf 0 (by decide) (by decide) (by decide) (by decide) (by decide), hf 1 (by decide) (by decide) (by decide) (by decide) (by decide), hf 2 (by decide) (by decide) (by decide) (by decide) (by decide), hf 3 (by decide) (by decide) (by decide) (by decide) (by decide), hf 4 (by decide) (by decide) (by decide) (by decide) (by decide)]
  refine ⟨s0, s1, s2, s3, s4, fun k hk => ?_⟩
  rw [hf _ (by omega) (by omega) (by omega) (by omega) (by omega)]
  exact s5 k hk
theorem meet_row {B : Int} {k : Nat} {f : Nat → Int32} (hB : B ≤ 1000000000) (hs : okS f) (h : okH B f) (hk : k < 20) (h11 : f 11 = 0) : okH (B + 25) (upd (T_meet k f).1 11 (T_meet k f).2) ∧ ∀ q, q ≠ 7 → q ≠ 8 → q ≠ 9 → q ≠ 10 → q ≠ 11 → upd (T_meet k f).1 11 (T_meet k f).2 q = f q := by
  have m := meet_in hB hs h hk h11
  refine ⟨⟨?_, ?_, ?_, ?_, ?_⟩, fun q a b c d e => by rw [upd_n e]; exact T_meet_fr a b c⟩
  · rw [upd_n (by decide)]; exact m.1
  · rw [upd_n (by decide)]; exact m.2.2
  · rw [upd_n (by decide)]; exact m.2.1
  · rw [upd_n (by decide), upd_n (by decide), T_meet_fr (by decide) (by decide) (by decide), T_meet_fr (by decide) (by decide) (by decide)]; exact h.2.2.2.1
  · rw [upd_s]
    rcases T_meet_how k f with q | q | q
    · rw [q]; exact ⟨by decide, by decide⟩
    · rw [q]; exact ⟨by decide, by decide⟩
    · rw [q]; exact ⟨by decide, by decide⟩
set_option maxRecDepth 20000 in
/-- a part is met -/
theorem c_X1_meet (l : Launch) (D : va_G) (Y : Nat → ClassId) (ad : Nat → Nat) (N : Nat) (hI : wI ad N) (C : Nat → va_E) (h : Nat) (hh : h < N) (f : Nat → Int32) (g : Int32) (hC : C h = hpV (f 5) (f 6) (f 7) (f 8) (f 9) (f 10) (f 11) (f 12) (f 13) g) (k se : Nat) (hse : se + 1 < N) (hs : isSett Y ad C se f) (hL : okL f) (h11 : f 11 = 0) : Met l yX1_meet (wm yX1_meet cX1_meet 4 none) { frames := 3, cells := 0, slots := 0, locals := 61 } (wPc D Y ad N [.ref (ad h), .int (kindAt f k), .int (valAt f k), .ref (ad se)] C) (wQv D ad N (fun C' => C' = va_up C h (hpR (upd (T_meet k f).1 11 (T_meet k f).2) g))) 0 0 (wA ad N) := by
  refine wMet RX1 rfl (by decide +kernel) (Nat.le_of_ble_eq_true rfl) (lv := [(0, .ref (ad h)), (1, .int (kindAt f k)), (2, .int (valAt f k)), (3, .ref (ad se))]) rfl ?_
  intro p e s m below meth c ls F hr hlocks hP hl
  have hS : va_S (wA ad N) s.heap s.heap [] := va_S.rf
  refine lv_iload_n F.1 F.2.1 dX1_meet_0 rfl (lv_at hl 1 rfl) ?_
  by_cases k1 : kindAt f k = 0
  · refine lv_lookup (off := 27) (tgt := 28) F.1 F.2.1 dX1_meet_1 (by decide) ((by rw [k1]; rfl)) (by decide) ?_
    refine lv_aload_n F.1 F.2.1 dX1_meet_28 rfl (lv_at hl 0 rfl) ?_
    refine lv_iload_n F.1 F.2.1 dX1_meet_29 rfl (lv_at hl 2 rfl) ?_
    refine lv_aload_n F.1 F.2.1 dX1_meet_30 rfl (lv_at hl 3 rfl) ?_
    refine lv_iconst (v := 1) F.1 F.2.1 dX1_meet_31 (by decide) ?_
    refine w_calli F hP hS (c_X4_value l D Y ad N hI _ se hse f hs 1 (by decide)) (cwVm 1 F.2.2.2.2.1 (fun _ h => h) mw_172 mw_305 mw_170 mw_171 mw_38 rfl rfl ydX4_value ⟨by decide, by decide⟩) (by omega) hs.1 rfl rfl hl.1 rfl (Nat.le_of_ble_eq_true rfl) dX1_meet_32 ⟨Nat.zero_le _, Nat.zero_le _⟩ (fun r C2 H locs hq hP hS => ?_)
    obtain ⟨hq1, hq2⟩ := hq; rw [hq1] at hP; subst hq2
    refine w_callv F hP hS (c_X1_dropBy l D Y ad N hI _ h hh (f 5) (f 6) (f 7) (f 8) (f 9) (f 10) (f 11) (f 12) (f 13) g hC (valAt f k) (f 1)) (cwVm 2 F.2.2.2.2.1 (fun _ h => h) mw_309 mw_306 mw_307 mw_308 mw_30 rfl rfl ydX1_dropBy ⟨by decide, by decide⟩) hh hC rfl rfl hl.1 rfl (Nat.le_of_ble_eq_true rfl) dX1_meet_35 ⟨Nat.zero_le _, Nat.zero_le _⟩ (fun C2 H locs hq hP hS => ?_)
    subst hq
    refine lv_goto (tgt := 94) F.1 F.2.1 dX1_meet_38 (by decide) ?_
    exact w_vret F hr hlocks hP hS dX1_meet_94 (by rw [meet_d k1 h11])
  · by_cases k2 : kindAt f k = 1
    · refine lv_lookup (off := 40) (tgt := 41) F.1 F.2.1 dX1_meet_1 (by decide) ((lv_osw k1 rfl).trans ((by rw [k2]; rfl))) (by decide) ?_
      refine lv_aload_n F.1 F.2.1 dX1_meet_41 rfl (lv_at hl 0 rfl) ?_
      refine lv_iload_n F.1 F.2.1 dX1_meet_42 rfl (lv_at hl 2 rfl) ?_
      refine lv_aload_n F.1 F.2.1 dX1_meet_43 rfl (lv_at hl 3 rfl) ?_
      refine lv_iconst (v := 2) F.1 F.2.1 dX1_meet_44 (by decide) ?_
      refine w_calli F hP hS (c_X4_value l D Y ad N hI _ se hse f hs 2 (by decide)) (cwVm 1 F.2.2.2.2.1 (fun _ h => h) mw_172 mw_305 mw_170 mw_171 mw_38 rfl rfl ydX4_value ⟨by decide, by decide⟩) (by omega) hs.1 rfl rfl hl.1 rfl (Nat.le_of_ble_eq_true rfl) dX1_meet_45 ⟨Nat.zero_le _, Nat.zero_le _⟩ (fun r C2 H locs hq hP hS => ?_)
      obtain ⟨hq1, hq2⟩ := hq; rw [hq1] at hP; subst hq2
      refine w_callv F hP hS (c_X1_rollAlong l D Y ad N hI _ h hh f g hC (valAt f k) hL) (cwVm 2 F.2.2.2.2.1 (fun _ h => h) mw_322 mw_319 mw_320 mw_321 mw_30 rfl rfl ydX1_rollAlong ⟨by decide, by decide⟩) hh hC rfl rfl hl.1 rfl (Nat.le_of_ble_eq_true rfl) dX1_meet_48 ⟨Nat.zero_le _, Nat.zero_le _⟩ (fun C2 H locs hq hP hS => ?_)
      subst hq
      refine lv_aload_n F.1 F.2.1 dX1_meet_51 rfl (lv_at hl 0 rfl) ?_
      refine lv_aload_n F.1 F.2.1 dX1_meet_52 rfl (lv_at hl 0 rfl) ?_
      refine gf_X1_19 F hP hh (va_up_self _ _ _) (v := .int (T_lands (valAt f k).toNatClampNeg f 7)) rfl dX1_meet_53 ?_
      refine lv_if_ne (tgt := 63) F.1 F.2.1 dX1_meet_56 (by decide) (fun c3 => ?_) (fun c3 => ?_)
      · refine lv_iconst (v := 0) F.1 F.2.1 dX1_meet_63 (by decide) ?_
        refine pf_X1_31 F hI hP hS hh (va_up_self _ _ _) (Nat.le_of_ble_eq_true rfl) (C1 := va_up C h (hpV (T_lands (valAt f k).toNatClampNeg f 5) (T_lands (valAt f k).toNatClampNeg f 6) (T_lands (valAt f k).toNatClampNeg f 7) (T_lands (valAt f k).toNatClampNeg f 8) (T_lands (valAt f k).toNatClampNeg f 9) (T_lands (valAt f k).toNatClampNeg f 10) 0 (T_lands (valAt f k).toNatClampNeg f 12) (T_lands (valAt f k).toNatClampNeg f 13) g)) up_self dX1_meet_64 (fun H locs hP hS => ?_)
        refine lv_goto (tgt := 94) F.1 F.2.1 dX1_meet_67 (by decide) ?_
        exact w_vret F hr hlocks hP hS dX1_meet_94 (by rw [meet_l k1 k2 (by simp only [if_neg c3])])
      · refine lv_iconst (v := 3) F.1 F.2.1 dX1_meet_59 (by decide) ?_
        refine lv_goto (tgt := 64) F.1 F.2.1 dX1_meet_60 (by decide) ?_
        refine pf_X1_31 F hI hP hS hh (va_up_self _ _ _) (Nat.le_of_ble_eq_true rfl) (C1 := va_up C h (hpV (T_lands (valAt f k).toNatClampNeg f 5) (T_lands (valAt f k).toNatClampNeg f 6) (T_lands (valAt f k).toNatClampNeg f 7) (T_lands (valAt f k).toNatClampNeg f 8) (T_lands (valAt f k).toNatClampNeg f 9) (T_lands (valAt f k).toNatClampNeg f 10) 3 (T_lands (valAt f k).toNatClampNeg f 12) (T_lands (valAt f k).toNatClampNeg f 13) g)) up_self dX1_meet_64 (fun H locs hP hS => ?_)
        refine lv_goto (tgt := 94) F.1 F.2.1 dX1_meet_67 (by decide) ?_
        exact w_vret F hr hlocks hP hS dX1_meet_94 (by rw [meet_l k1 k2 (by simp only [if_pos c3])])
    · refine lv_lookup (off := 69) (tgt := 70) F.1 F.2.1 dX1_meet_1 (by decide) ((lv_osw k1 rfl).trans ((lv_osw k2 rfl).trans (rfl))) (by decide) ?_
      refine lv_aload_n F.1 F.2.1 dX1_meet_70 rfl (lv_at hl 0 rfl) ?_
      refine lv_aload_n F.1 F.2.1 dX1_meet_71 rfl (lv_at hl 0 rfl) ?_
      refine gf_X1_15 F hP hh hC (v := .int (f 6)) rfl dX1_meet_72 ?_
      refine lv_aload_n F.1 F.2.1 dX1_meet_75 rfl (lv_at hl 0 rfl) ?_
      refine gf_X1_25 F hP hh hC (v := .int (f 9)) rfl dX1_meet_76 ?_
      refine lv_iconst (v := 4) F.1 F.2.1 dX1_meet_79 (by decide) ?_
      refine lv_idiv F.1 F.2.1 dX1_meet_80 (by decide) ?_
      refine lv_iadd F.1 F.2.1 dX1_meet_81 ?_
      refine lv_iload_n F.1 F.2.1 dX1_meet_82 rfl (lv_at hl 2 rfl) ?_
      refine lv_icmp_gt (tgt := 90) F.1 F.2.1 dX1_meet_83 (by decide) (fun c4 => ?_) (fun c4 => ?_)
      · refine lv_iconst (v := 2) F.1 F.2.1 dX1_meet_90 (by decide) ?_
        refine pf_X1_31 F hI hP hS hh hC (Nat.le_of_ble_eq_true rfl) (C1 := va_up C h (hpV (f 5) (f 6) (f 7) (f 8) (f 9) (f 10) 2 (f 12) (f 13) g)) (fun _ => rfl) dX1_meet_91 (fun H locs hP hS => ?_)
        exact w_vret F hr hlocks hP hS dX1_meet_94 (by rw [meet_g k1 k2 (by simp only [if_pos c4, if_neg (i_nle c4)])])
      · refine lv_iconst (v := 0) F.1 F.2.1 dX1_meet_86 (by decide) ?_
        refine lv_goto (tgt := 91) F.1 F.2.1 dX1_meet_87 (by decide) ?_
        refine pf_X1_31 F hI hP hS hh hC (Nat.le_of_ble_eq_true rfl) (C1 := va_up C h (hpV (f 5) (f 6) (f 7) (f 8) (f 9) (f 10) 0 (f 12) (f 13) g)) (fun _ => rfl) dX1_meet_91 (fun H locs hP hS => ?_)
        exact w_vret F hr hlocks hP hS dX1_meet_94 (by rw [meet_g k1 k2 (by simp only [if_neg c4, if_pos (i_le c4)])])
set_option maxRecDepth 20000 in
/-- behind a part -/
theorem c_X1_goBehind (l : Launch) (D : va_G) (Y : Nat → ClassId) (ad : Nat → Nat) (N : Nat) (hI : wI ad N) (C : Nat → va_E) (h : Nat) (hh : h < N) (f : Nat → Int32) (g : Int32) (hC : C h = hpV (f 5) (f 6) (f 7) (f 8) (f 9) (f 10) (f 11) (f 12) (f 13) g) (B : Int) (st : Nat) (hh2 : st < N) (hne : st ≠ h) (gr : Nat) (hC2 : C st = .inr (5, [.ref gr, .int (f 4)])) (hs : okS f) (ho : okH B f) : Met l yX1_goBehind (wm yX1_goBehind cX1_goBehind 4 none) { frames := 1, cells := 0, slots := 0, locals := 21 } (wPc D Y ad N [.ref (ad h), .ref (ad st), .int (f 0)] C) (wQv D ad N (fun C' => C' = va_up C h (gbE f g))) 0 0 (wA ad N) := by
  refine wMet RX1 rfl (by decide +kernel) (Nat.le_of_ble_eq_true rfl) (lv := [(0, .ref (ad h)), (1, .ref (ad st)), (2, .int (f 0))]) rfl ?_
  intro p e s m below meth c ls F hr hlocks hP hl
  have hS : va_S (wA ad N) s.heap s.heap [] := va_S.rf
  refine lv_aload_n F.1 F.2.1 dX1_goBehind_0 rfl (lv_at hl 0 rfl) ?_
  refine gf_X1_31 F hP hh hC (v := .int (f 11)) rfl dX1_goBehind_1 ?_
  refine lv_if_eq (tgt := 8) F.1 F.2.1 dX1_goBehind_4 (by decide) (fun c1 => ?_) (fun c1 => ?_)
  · refine lv_aload_n F.1 F.2.1 dX1_goBehind_8 rfl (lv_at hl 0 rfl) ?_
    refine gf_X1_22 F hP hh hC (v := .int (f 8)) rfl dX1_goBehind_9 ?_
    refine w_abs F hl.1 mw_334 (by decide) (Nat.le_of_ble_eq_true rfl) ⟨Nat.zero_le _, Nat.zero_le _⟩ dX1_goBehind_12 ?_
    refine lv_topi (fun v2 ev2 => ?_)
    have ev2 : v2 = iabs (f 8) := ev2.trans (iabs_eq _)
    subst ev2
    refine lv_istore_n (lv' := [(3, .int (iabs (f 8))), (0, .ref (ad h)), (1, .ref (ad st)), (2, .int (f 0))]) F.1 F.2.1 dX1_goBehind_15 rfl hl (by decide) rfl (fun ls hl => ?_)
    refine lv_aload_n F.1 F.2.1 dX1_goBehind_16 rfl (lv_at hl 1 rfl) ?_
    refine lv_aload_n F.1 F.2.1 dX1_goBehind_17 rfl (lv_at hl 1 rfl) ?_
    refine gf_X1_40 F hP hh hC (v := .int (g)) rfl dX1_goBehind_18 ?_
    refine lv_iload_n F.1 F.2.1 dX1_goBehind_21 rfl (lv_at hl 0 rfl) ?_
    refine w_max F hl.1 mw_323 (by decide) (Nat.le_of_ble_eq_true rfl) ⟨Nat.zero_le _, Nat.zero_le _⟩ dX1_goBehind_22 ?_
    refine pf_X1_40 F hI hP hS hh hC (Nat.le_of_ble_eq_true rfl) (C1 := va_up C h (hpV (f 5) (f 6) (f 7) (f 8) (f 9) (f 10) (f 11) (f 12) (f 13) (if g < iabs (f 8) then iabs (f 8) else g))) (fun _ => rfl) dX1_goBehind_25 (fun H locs hP hS => ?_)
    refine lv_iload_n F.1 F.2.1 dX1_goBehind_28 rfl (lv_at hl 0 rfl) ?_
    refine lv_iload_n F.1 F.2.1 dX1_goBehind_29 rfl (lv_at hl 3 rfl) ?_
    refine lv_icmp_lt (tgt := 39) F.1 F.2.1 dX1_goBehind_30 (by decide) (fun c3 => ?_) (fun c3 => ?_)
    · refine lv_aload_n F.1 F.2.1 dX1_goBehind_39 rfl (lv_at hl 1 rfl) ?_
      refine lv_dup F.1 F.2.1 dX1_goBehind_40 rfl ?_
      refine gf_X1_28 F hP hh (va_up_self _ _ _) (v := .int (f 10)) rfl dX1_goBehind_41 ?_
      refine lv_iconst (v := 1) F.1 F.2.1 dX1_goBehind_44 (by decide) ?_
      refine lv_iadd F.1 F.2.1 dX1_goBehind_45 ?_
      refine pf_X1_28 F hI hP hS hh (va_up_self _ _ _) (Nat.le_of_ble_eq_true rfl) (C1 := va_up C h (hpV (f 5) (f 6) (f 7) (f 8) (f 9) ((f 10) + 1) (f 11) (f 12) (f 13) (if g < iabs (f 8) then iabs (f 8) else g))) up_self dX1_goBehind_46 (fun H locs hP hS => ?_)
      refine lv_aload_n F.1 F.2.1 dX1_goBehind_49 rfl (lv_at hl 2 rfl) ?_
      refine lv_aload_n F.1 F.2.1 dX1_goBehind_50 rfl (lv_at hl 1 rfl) ?_
      refine gf_X1_28 F hP hh (va_up_self _ _ _) (v := .int ((f 10) + 1)) rfl dX1_goBehind_51 ?_
      refine w_calli F hP hS (c_X5_has l D Y ad N hI _ st hh2 _ _ ((va_up_ne _ _ hne).trans hC2) ((f 10) + 1)) (cwVm 1 F.2.2.2.2.1 (fun _ h => h) mw_234 mw_296 mw_232 mw_233 mw_42 rfl rfl ydX5_has ⟨by decide, by decide⟩) hh2 ((va_up_ne _ _ hne).trans hC2) rfl rfl hl.1 rfl (Nat.le_of_ble_eq_true rfl) dX1_goBehind_54 ⟨Nat.zero_le _, Nat.zero_le _⟩ (fun r C2 H locs hq hP hS => ?_)
      obtain ⟨hq1, hq2⟩ := hq; rw [hq1] at hP
      have hbr4 : r = if (f 10) + 1 < f 4 then 1 else 0 := by rw [hq2]; simp only [has_iff (x := (f 10) + 1) (n := f 4) (by have h1 := ho.2.2.2.1; have h2 := hs.2.2.2.2.1; rw [i_add (by rw [show (1 : Int32).toInt = 1 from rfl]; omega) (by rw [show (1 : Int32).toInt = 1 from rfl]; omega), show (1 : Int32).toInt = 1 from rfl]; omega) hs.2.2.2.2.1.2]
      clear hq2; generalize r = r4 at hbr4 ⊢
      refine lv_if_ne (tgt := 65) F.1 F.2.1 dX1_goBehind_57 (by decide) (fun c5 => ?_) (fun c5 => ?_)
      · exact w_vret F hr hlocks hP hS dX1_goBehind_65 (by simp only [gbE, if_pos c1, if_pos c3, if_neg (i_nle c3), if_pos (b_t hbr4 c5)]; simp [hpR, hpV, upd, c1])
      · refine lv_aload_n F.1 F.2.1 dX1_goBehind_60 rfl (lv_at hl 1 rfl) ?_
        refine lv_iconst (v := 4) F.1 F.2.1 dX1_goBehind_61 (by decide) ?_
        refine pf_X1_31 F hI hP hS hh (va_up_self _ _ _) (Nat.le_of_ble_eq_true rfl) (C1 := va_up C h (hpV (f 5) (f 6) (f 7) (f 8) (f 9) ((f 10) + 1) 4 (f 12) (f 13) (if g < iabs (f 8) then iabs (f 8) else g))) up_self dX1_goBehind_62 (fun H locs hP hS => ?_)
        exact w_vret F hr hlocks hP hS dX1_goBehind_65 (by simp only [gbE, if_pos c1, if_pos c3, if_neg (i_nle c3), if_neg (b_f hbr4 c5)]; simp [hpR, hpV, upd, c1])
    · refine lv_aload_n F.1 F.2.1 dX1_goBehind_33 rfl (lv_at hl 1 rfl) ?_
      refine lv_iconst (v := 1) F.1 F.2.1 dX1_goBehind_34 (by decide) ?_
      refine pf_X1_31 F hI hP hS hh (va_up_self _ _ _) (Nat.le_of_ble_eq_true rfl) (C1 := va_up C h (hpV (f 5) (f 6) (f 7) (f 8) (f 9) (f 10) 1 (f 12) (f 13) (if g < iabs (f 8) then iabs (f 8) else g))) up_self dX1_goBehind_35 (fun H locs hP hS => ?_)
      exact w_vret F hr hlocks hP hS dX1_goBehind_38 (by simp only [gbE, if_pos c1, if_neg c3, if_pos (i_le c3)]; simp [hpR, hpV, upd, c1])
  · exact w_vret F hr hlocks hP hS dX1_goBehind_7 (by unfold gbE; rw [if_neg c1]; exact up_id hC)
end
section
/-! HoopStairs$Hoop.rollOver -/
theorem T_step_p {f : Nat → Int32} {g : Int32} (h : ¬ f 10 < f 4) : hpR (T_step f g).1 (T_step f g).2 = hpV (f 5) (f 6) (f 7) (f 8) (f 9) (f 10) 4 (f 12) (f 13) g := by
  unfold T_step
  rw [if_neg h]
  simp [upd]
set_option maxRecDepth 20000 in
/-- a run over n parts -/
theorem c_X1_rollOver (l : Launch) (D : va_G) (Y : Nat → ClassId) (ad : Nat → Nat) (N : Nat) (hI : wI ad N) (C : Nat → va_E) (h : Nat) (hh : h < N) (f : Nat → Int32) (g : Int32) (hC : C h = hpV (f 5) (f 6) (f 7) (f 8) (f 9) (f 10) (f 11) (f 12) (f 13) g) (B : Int) (n st se : Nat) (hn : n ≤ 21) (hB : B + 525 ≤ 900000000) (hh2 : st + 6 < N) (hh3 : se + 1 < N) (hd1 : h < st ∨ st + 7 ≤ h) (hd2 : h < se ∨ se + 2 ≤ h) (hst : isStair Y ad C st f) (hse : isSett Y ad C se f) (hs : okS f) (ho : okH B f) (h5 : f 5 = 1) : Met l yX1_rollOver (wm yX1_rollOver cX1_rollOver 5 none) { frames := 4, cells := 0, slots := 0, locals := 84 } (wPc D Y ad N [.ref (ad h), .int (nI n), .ref (ad st), .ref (ad se)] C) (wQv D ad N (fun C' => C' = va_up C h (hpR (T_roll n f g).1 (T_roll n f g).2))) 0 0 (wA ad N) := by
  refine wMet RX1 rfl (by decide +kernel) (Nat.le_of_ble_eq_true rfl) (lv := [(0, .ref (ad h)), (1, .int (nI n)), (2, .ref (ad st)), (3, .ref (ad se))]) rfl ?_
  intro p e s m below meth c ls F hr hlocks hP hl
  have hS : va_S (wA ad N) s.heap s.heap [] := va_S.rf
  refine lv_iconst (v := 0) F.1 F.2.1 dX1_rollOver_0 (by decide) ?_
  refine lv_istore (lv' := [(4, .int (0)), (0, .ref (ad h)), (1, .int (nI n)), (2, .ref (ad st)), (3, .ref (ad se))]) F.1 F.2.1 dX1_rollOver_1 hl (by decide) rfl (fun ls hl => ?_)
  refine w_loop (Inv := fun i ls C' => ∃ (j : Nat) (f1 : Nat → Int32) (g1 : Int32), i = n - j ∧ j ≤ n ∧ lv_has ls 5 [(4, .int (nI j)), (0, .ref (ad h)), (1, .int (nI n)), (2, .ref (ad st)), (3, .ref (ad se))] ∧ C' = va_up C h (hpR f1 g1) ∧ T_roll (n - j) f1 g1 = T_roll n f g ∧ okH (B + 25 * j) f1 ∧ (∀ q, q ≠ 7 → q ≠ 8 → q ≠ 9 → q ≠ 10 → q ≠ 11 → f1 q = f q)) ?_ n ⟨0, f, g, rfl, Nat.zero_le _, lv_sub hl [0, 1, 2, 3, 4] rfl, up_id hC, rfl, by simpa using ho, fun _ _ _ _ _ _ => rfl⟩ hP hS
  intro i ih H locs ls C1 hInv hP hS
  obtain ⟨j, f1, g1, hi, hj, hl, rfl, hT, hO, hf⟩ := hInv
  have hs1 : okS f1 := okS_of hs hf
  have hB1 : B + 25 * j ≤ 900000000 := by omega
  have hst1 : isStair Y ad (va_up C h (hpR f1 g1)) st f1 := isStair_up hst hd1 (hf 4 (by decide) (by decide) (by decide) (by decide) (by decide)) (fun q hq => hf q (by omega) (by omega) (by omega) (by omega) (by omega))
  have hse1 : isSett Y ad (va_up C h (hpR f1 g1)) se f1 := isSett_up hse hd2 (fun q hq => hf q (by omega) (by omega) (by omega) (by omega) (by omega))
  have h51 : f1 5 = 1 := (hf 5 (by decide) (by decide) (by decide) (by decide) (by decide)).trans h5
  obtain ⟨e10, l10, i10⟩ := nI_rd (x := f1 10) (M := 20) hO.2.2.2.1.1 (by have := hO.2.2.2.1.2; have := hs1.2.2.2.2.1.2; omega)
  generalize hk : (f1 10).toNatClampNeg = k at e10 l10 i10
  refine lv_iload F.1 F.2.1 dX1_rollOver_3 (lv_at hl 0 rfl) ?_
  refine lv_iload_n F.1 F.2.1 dX1_rollOver_5 rfl (lv_at hl 2 rfl) ?_
  refine lv_icmp_ge (tgt := 74) F.1 F.2.1 dX1_rollOver_6 (by decide) (fun c1 => ?_) (fun c1 => ?_)
  · exact w_vret F hr hlocks hP hS dX1_rollOver_74 (by rw [T_roll_e n j f1 f g1 g hT (Or.inl (Nat.not_lt.mp (fun q => nI_ge q (by omega) c1)))])
  · refine lv_aload_n F.1 F.2.1 dX1_rollOver_9 rfl (lv_at hl 1 rfl) ?_
    refine w_calli F hP hS (c_X1_rolls l D Y ad N hI _ h hh (f1 5) (f1 6) (f1 7) (f1 8) (f1 9) (f1 10) (f1 11) (f1 12) (f1 13) g1 (va_up_self _ _ _) (Or.inr h51)) (cwVm 0 F.2.2.2.2.1 (fun _ h => h) mw_286 mw_295 mw_284 mw_285 mw_30 rfl rfl ydX1_rolls ⟨by decide, by decide⟩) hh (va_up_self _ _ _) rfl rfl hl.1 rfl (Nat.le_of_ble_eq_true rfl) dX1_rollOver_10 ⟨Nat.zero_le _, Nat.zero_le _⟩ (fun r C2 H locs hq hP hS => ?_)
    obtain ⟨hq1, hbR⟩ := hq; rw [hq1] at hP; generalize r = rR at hbR ⊢
    refine lv_if_eq (tgt := 74) F.1 F.2.1 dX1_rollOver_13 (by decide) (fun c2 => ?_) (fun c2 => ?_)
    · exact w_vret F hr hlocks hP hS dX1_rollOver_74 (by rw [T_roll_e n j f1 f g1 g hT (Or.inr (fun q => b_f hbR c2 ⟨h51, q⟩))])
    · refine lv_aload_n F.1 F.2.1 dX1_rollOver_16 rfl (lv_at hl 3 rfl) ?_
      refine lv_aload_n F.1 F.2.1 dX1_rollOver_17 rfl (lv_at hl 1 rfl) ?_
      refine gf_X1_28 F hP hh (va_up_self _ _ _) (v := .int (f1 10)) rfl dX1_rollOver_18 ?_
      refine lv_topi (fun v3 ev3 => ?_)
      have ev3 : v3 = nI k := ev3.trans e10
      subst ev3
      refine w_calli F hP hS (c_X5_has l D Y ad N hI _ st (by omega) _ _ hst1.1 (nI k)) (cwVm 1 F.2.2.2.2.1 (fun _ h => h) mw_234 mw_296 mw_232 mw_233 mw_42 rfl rfl ydX5_has ⟨by decide, by decide⟩) (by omega) hst1.1 rfl rfl hl.1 rfl (Nat.le_of_ble_eq_true rfl) dX1_rollOver_21 ⟨Nat.zero_le _, Nat.zero_le _⟩ (fun r C2 H locs hq hP hS => ?_)
      obtain ⟨hq1, hq2⟩ := hq; rw [hq1] at hP
      have hbr4 : r = if nI k < f1 4 then 1 else 0 := by rw [hq2]; simp only [has_iff (x := nI k) (n := f1 4) (by rw [← e10]; exact hO.2.2.2.1.1) hs1.2.2.2.2.1.2]
      clear hq2; generalize r = r4 at hbr4 ⊢
      refine lv_if_eq (tgt := 63) F.1 F.2.1 dX1_rollOver_24 (by decide) (fun c5 => ?_) (fun c5 => ?_)
      · refine lv_aload_n F.1 F.2.1 dX1_rollOver_63 rfl (lv_at hl 1 rfl) ?_
        refine lv_iconst (v := 4) F.1 F.2.1 dX1_rollOver_64 (by decide) ?_
        have hnp : ¬ f1 10 < f1 4 := by rw [e10]; exact b_f hbr4 c5
        refine pf_X1_31 F hI hP hS hh (va_up_self _ _ _) (Nat.le_of_ble_eq_true rfl) (C1 := va_up C h (hpR (T_step f1 g1).1 (T_step f1 g1).2)) (fun q => by rw [T_step_p hnp]; exact up_self q) dX1_rollOver_65 (fun H locs hP hS => ?_)
        refine lv_iinc (v := (nI j) + 1) (lv' := [(4, .int ((nI j) + 1)), (0, .ref (ad h)), (1, .int (nI n)), (2, .ref (ad st)), (3, .ref (ad se))]) F.1 F.2.1 dX1_rollOver_68 hl (k := 0) rfl rfl (by decide) rfl (fun ls hl => ?_)
        refine lv_goto (tgt := 3) F.1 F.2.1 dX1_rollOver_71 (by decide) ?_
        exact ih _ (by have := (Nat.not_le.mp (fun q => c1 (nI_le q (by omega)))); omega) _ _ _ _ ⟨j + 1, (T_step f1 g1).1, (T_step f1 g1).2, rfl, (Nat.not_le.mp (fun q => c1 (nI_le q (by omega)))), (by rw [nI_succ]; exact lv_sub hl [0, 1, 2, 3, 4] rfl), rfl, T_roll_s n j f1 f g1 g hT (Nat.not_le.mp (fun q => c1 (nI_le q (by omega)))) ((b_t hbR c2).2), (by have := okH_step (g := g1) hB1 hs1 hO ((b_t hbR c2).2); rw [show B + 25 * ((j + 1 : Nat) : Int) = B + 25 * j + 25 by omega]; exact this), fun q a b d e x => (T_step_fr a b d e x).trans (hf q a b d e x)⟩ hP hS
      · refine lv_aload_n F.1 F.2.1 dX1_rollOver_27 rfl (lv_at hl 1 rfl) ?_
        refine lv_aload_n F.1 F.2.1 dX1_rollOver_28 rfl (lv_at hl 3 rfl) ?_
        refine lv_aload_n F.1 F.2.1 dX1_rollOver_29 rfl (lv_at hl 1 rfl) ?_
        refine gf_X1_28 F hP hh (va_up_self _ _ _) (v := .int (f1 10)) rfl dX1_rollOver_30 ?_
        refine lv_topi (fun v6 ev6 => ?_)
        have ev6 : v6 = nI k := ev6.trans e10
        subst ev6
        refine lv_iconst (v := 0) F.1 F.2.1 dX1_rollOver_33 (by decide) ?_
        have hkn : nI k < f1 4 := b_t hbr4 c5
        have hk20 : k < 20 := by have q := Int32.lt_iff_toInt_lt.mp hkn; rw [nI_toInt (by omega)] at q; have := hs1.2.2.2.2.1.2; omega
        have hlt : f1 10 < f1 4 := by rw [e10]; exact hkn
        refine w_calli F hP hS (c_X5_entry l D Y ad N hI _ st (by omega) f1 hst1 k 0 hk20 hkn (by decide)) (cwVm 2 F.2.2.2.2.1 (fun _ h => h) mw_300 mw_297 mw_298 mw_299 mw_42 rfl rfl ydX5_entry ⟨by decide, by decide⟩) (by omega) hst1.1 rfl rfl hl.1 rfl (Nat.le_of_ble_eq_true rfl) dX1_rollOver_34 ⟨Nat.zero_le _, Nat.zero_le _⟩ (fun r C2 H locs hq hP hS => ?_)
        obtain ⟨hq1, hq2⟩ := hq; rw [hq1] at hP
        have hq2 : r = kindAt f1 k := hq2.trans (congrArg f1 (by omega))
        subst hq2
        refine lv_aload_n F.1 F.2.1 dX1_rollOver_37 rfl (lv_at hl 3 rfl) ?_
        refine lv_aload_n F.1 F.2.1 dX1_rollOver_38 rfl (lv_at hl 1 rfl) ?_
        refine gf_X1_28 F hP hh (va_up_self _ _ _) (v := .int (f1 10)) rfl dX1_rollOver_39 ?_
        refine lv_topi (fun v7 ev7 => ?_)
        have ev7 : v7 = nI k := ev7.trans e10
        subst ev7
        refine lv_iconst (v := 1) F.1 F.2.1 dX1_rollOver_42 (by decide) ?_
        refine w_calli F hP hS (c_X5_entry l D Y ad N hI _ st (by omega) f1 hst1 k 1 hk20 hkn (by decide)) (cwVm 2 F.2.2.2.2.1 (fun _ h => h) mw_300 mw_297 mw_298 mw_299 mw_42 rfl rfl ydX5_entry ⟨by decide, by decide⟩) (by omega) hst1.1 rfl rfl hl.1 rfl (Nat.le_of_ble_eq_true rfl) dX1_rollOver_43 ⟨Nat.zero_le _, Nat.zero_le _⟩ (fun r C2 H locs hq hP hS => ?_)
        obtain ⟨hq1, hq2⟩ := hq; rw [hq1] at hP
        have hq2 : r = valAt f1 k := hq2.trans (congrArg f1 (by omega))
        subst hq2
        refine lv_aload_n F.1 F.2.1 dX1_rollOver_46 rfl (lv_at hl 4 rfl) ?_
        have h11 : f1 11 = 0 := (b_t hbR c2).2
        refine w_callv F hP hS (c_X1_meet l D Y ad N hI _ h hh f1 g1 (va_up_self _ _ _) k se hh3 hse1 (okH_okL (by omega) hs1 hO) h11) (cwVm 3 F.2.2.2.2.1 (fun _ h => h) mw_304 mw_301 mw_302 mw_303 mw_30 rfl rfl ydX1_meet ⟨by decide, by decide⟩) hh (va_up_self _ _ _) rfl rfl hl.1 rfl (Nat.le_of_ble_eq_true rfl) dX1_rollOver_47 ⟨Nat.zero_le _, Nat.zero_le _⟩ (fun C2 H locs hq hP hS => ?_)
        rw [uu] at hq; subst hq
        have hmr := meet_row (by omega) hs1 hO hk20 h11
        have hgb := gb_step (g := g1) h11 hlt
        rw [hk] at hgb
        generalize upd (T_meet k f1).1 11 (T_meet k f1).2 = F2 at hP hmr hgb ⊢
        have hst2 : isStair Y ad (va_up C h (hpR F2 g1)) st F2 := isStair_up hst hd1 ((hmr.2 4 (by decide) (by decide) (by decide) (by decide) (by decide)).trans (hf 4 (by decide) (by decide) (by decide) (by decide) (by decide))) (fun q hq => (hmr.2 q (by omega) (by omega) (by omega) (by omega) (by omega)).trans (hf q (by omega) (by omega) (by omega) (by omega) (by omega)))
        have hse2 : isSett Y ad (va_up C h (hpR F2 g1)) se F2 := isSett_up hse hd2 (fun q hq => (hmr.2 q (by omega) (by omega) (by omega) (by omega) (by omega)).trans (hf q (by omega) (by omega) (by omega) (by omega) (by omega)))
        refine lv_aload_n F.1 F.2.1 dX1_rollOver_50 rfl (lv_at hl 1 rfl) ?_
        refine lv_aload_n F.1 F.2.1 dX1_rollOver_51 rfl (lv_at hl 3 rfl) ?_
        refine lv_aload_n F.1 F.2.1 dX1_rollOver_52 rfl (lv_at hl 4 rfl) ?_
        refine lv_iconst (v := 0) F.1 F.2.1 dX1_rollOver_53 (by decide) ?_
        refine w_calli F hP hS (c_X4_value l D Y ad N hI _ se hh3 F2 hse2 0 (by decide)) (cwVm 1 F.2.2.2.2.1 (fun _ h => h) mw_172 mw_305 mw_170 mw_171 mw_38 rfl rfl ydX4_value ⟨by decide, by decide⟩) (by omega) hse2.1 rfl rfl hl.1 rfl (Nat.le_of_ble_eq_true rfl) dX1_rollOver_54 ⟨Nat.zero_le _, Nat.zero_le _⟩ (fun r C2 H locs hq hP hS => ?_)
        obtain ⟨hq1, hq2⟩ := hq; rw [hq1] at hP; subst hq2
        refine w_callv F hP hS (c_X1_goBehind l D Y ad N hI _ h hh F2 g1 (va_up_self _ _ _) _ st (by omega) (by omega) _ hst2.1 (okS_of hs1 hmr.2) hmr.1) (cwVm 2 F.2.2.2.2.1 (fun _ h => h) mw_333 mw_330 mw_331 mw_332 mw_30 rfl rfl ydX1_goBehind ⟨by decide, by decide⟩) hh (va_up_self _ _ _) rfl rfl hl.1 rfl (Nat.le_of_ble_eq_true rfl) dX1_rollOver_57 ⟨Nat.zero_le _, Nat.zero_le _⟩ (fun C2 H locs hq hP hS => ?_)
        rw [uu, hgb] at hq; subst hq
        refine lv_goto (tgt := 68) F.1 F.2.1 dX1_rollOver_60 (by decide) ?_
        refine lv_iinc (v := (nI j) + 1) (lv' := [(4, .int ((nI j) + 1)), (0, .ref (ad h)), (1, .int (nI n)), (2, .ref (ad st)), (3, .ref (ad se))]) F.1 F.2.1 dX1_rollOver_68 hl (k := 0) rfl rfl (by decide) rfl (fun ls hl => ?_)
        refine lv_goto (tgt := 3) F.1 F.2.1 dX1_rollOver_71 (by decide) ?_
        exact ih _ (by have := (Nat.not_le.mp (fun q => c1 (nI_le q (by omega)))); omega) _ _ _ _ ⟨j + 1, (T_step f1 g1).1, (T_step f1 g1).2, rfl, (Nat.not_le.mp (fun q => c1 (nI_le q (by omega)))), (by rw [nI_succ]; exact lv_sub hl [0, 1, 2, 3, 4] rfl), rfl, T_roll_s n j f1 f g1 g hT (Nat.not_le.mp (fun q => c1 (nI_le q (by omega)))) ((b_t hbR c2).2), (by have := okH_step (g := g1) hB1 hs1 hO ((b_t hbR c2).2); rw [show B + 25 * ((j + 1 : Nat) : Int) = B + 25 * j + 25 by omega]; exact this), fun q a b d e x => (T_step_fr a b d e x).trans (hf q a b d e x)⟩ hP hS
end
section
/-! HoopStairs$Stair: what it does to its columns -/
/-- nc rows of n numbers from b on -/
def isGrid (Y : Nat → ClassId) (C : Nat → va_E) (b nc n : Nat) (v : Nat → Nat → Int32) : Prop := ∀ c, c < nc → ∃ q : Nat → Int32, C (b + c) = .inl (Y 0, n, .inl q) ∧ ∀ k, k < n → q k = v c k
theorem isGrid_up {Y : Nat → ClassId} {C : Nat → va_E} {b nc n i : Nat} {v v' : Nat → Nat → Int32} {q : Nat → Int32} (h : isGrid Y C b nc n v) (hq : ∀ k, k < n → q k = v' i k) (ho : ∀ c k, c < nc → c ≠ i → k < n → v' c k = v c k) : isGrid Y (va_up C (b + i) (.inl (Y 0, n, .inl q))) b nc n v' := by
  intro c hc
  by_cases e : c = i
  · subst e
    exact ⟨q, va_up_self _ _ _, hq⟩
  · obtain ⟨r, h1, h2⟩ := h c hc
    exact ⟨r, by rw [va_up_ne _ _ (by omega), h1], fun k hk => by rw [h2 k hk, ho c k hc e hk]⟩
theorem isGrid_off {Y : Nat → ClassId} {C : Nat → va_E} {b nc n h : Nat} {e : va_E} {v : Nat → Nat → Int32} (hg : isGrid Y C b nc n v) (hd : h < b ∨ b + nc ≤ h) : isGrid Y (va_up C h e) b nc n v := by
  intro c hc
  obtain ⟨r, h1, h2⟩ := hg c hc
  exact ⟨r, by rw [va_up_ne _ _ (by omega), h1], h2⟩
theorem isGrid_congr {Y : Nat → ClassId} {C : Nat → va_E} {b nc n : Nat} {v v' : Nat → Nat → Int32} (hg : isGrid Y C b nc n v) (h : ∀ c k, c < nc → k < n → v c k = v' c k) : isGrid Y C b nc n v' := by
  intro c hc
  obtain ⟨r, h1, h2⟩ := hg c hc
  exact ⟨r, h1, fun k hk => by rw [h2 k hk, h c k hc hk]⟩
theorem isGrid_same {Y : Nat → ClassId} {C C' : Nat → va_E} {b nc n : Nat} {v : Nat → Nat → Int32} (hg : isGrid Y C b nc n v) (h : ∀ j, b ≤ j → j < b + nc → C' j = C j) : isGrid Y C' b nc n v := by
  intro c hc
  obtain ⟨r, h1, h2⟩ := hg c hc
  exact ⟨r, by rw [h _ (by omega) (by omega), h1], h2⟩
def isLog (Y : Nat → ClassId) (ad : Nat → Nat) (C : Nat → va_E) (lg : Nat) (f : Nat → Int32) : Prop :=
  C lg = .inr (3, [.ref (ad (lg + 1)), .int (f 20)]) ∧ (∃ q : Nat → Option Nat, C (lg + 1) = .inl (Y 3, 4, .inr (.inr (.inr (.inr q)))) ∧ ∀ i, i < 4 → q i = some (ad (lg + 2 + i))) ∧
  isGrid Y C (lg + 2) 4 10 (fun i r => f (21 + 4 * r + i))
def T_sum (kd : Int32) (f : Nat → Int32) : Nat → Int32
  | 0 => 0
  | k + 1 => if kindAt f k = kd then T_sum kd f k + valAt f k else T_sum kd f k
def T_least (f : Nat → Int32) : Nat → Int32
  | 0 => 0
  | k + 1 => if kindAt f k = 2 ∧ (T_least f k = 0 ∨ valAt f k < T_least f k) then valAt f k else T_least f k
theorem m20 {f : Nat → Int32} (h : okS f) : (f 4).toNatClampNeg ≤ 20 := by
  have h1 := h.2.2.2.2.1
  have h3 : (f 4).toNatClampNeg = (f 4).toInt.toNat := rfl
  omega
set_option maxRecDepth 20000 in
set_option maxHeartbeats 4000000 in
/-- columns copied -/
theorem c_X5_copyFrom (l : Launch) (D : va_G) (Y : Nat → ClassId) (ad : Nat → Nat) (N : Nat) (hI : wI ad N) (C : Nat → va_E) (st so : Nat) (hh : st + 6 < N) (hh2 : so + 6 < N) (hd : st + 7 ≤ so ∨ so + 7 ≤ st) (f f2 : Nat → Int32) (hs : isStair Y ad C st f) (ho : isStair Y ad C so f2) : Met l yX5_copyFrom (wm yX5_copyFrom cX5_copyFrom 3 none) { frames := 1, cells := 0, slots := 0, locals := 24 } (wPc D Y ad N [.ref (ad st), .ref (ad so)] C) (wQv D ad N (fun C' => isStair Y ad C' st f2 ∧ ∀ j, j < st ∨ st + 7 ≤ j → C' j = C j)) 0 0 (wA ad N) := by
  obtain ⟨qs, hqs, hqs1⟩ := hs.2.1
  obtain ⟨qo, hqo, hqo1⟩ := ho.2.1
  refine wMet RX5 rfl (by decide +kernel) (Nat.le_of_ble_eq_true rfl) (lv := [(0, .ref (ad st)), (1, .ref (ad so))]) rfl ?_
  intro p e s m below meth c ls F hr hlocks hP hl
  have hS : va_S (wA ad N) s.heap s.heap [] := va_S.rf
  refine lv_iconst (v := 0) F.1 F.2.1 dX5_copyFrom_0 (by decide) ?_
  refine lv_istore_n (lv' := [(2, .int (0)), (0, .ref (ad st)), (1, .ref (ad so))]) F.1 F.2.1 dX5_copyFrom_1 rfl hl (by decide) rfl (fun ls hl => ?_)
  refine w_loop (Inv := fun j ls C' => ∃ i : Nat, j = 5 - i ∧ i ≤ 5 ∧ lv_has ls 3 [(2, .int (nI i)), (0, .ref (ad st)), (1, .ref (ad so))] ∧ isGrid Y C' (st + 2) 5 20 (fun c k => if c < i then f2 (61 + 5 * k + c) else f (61 + 5 * k + c)) ∧ (∀ j, j < st + 2 ∨ st + 7 ≤ j → C' j = C j)) ?_ 5 ⟨0, rfl, by decide, lv_sub hl [0, 1, 2] rfl, isGrid_congr hs.2.2 (fun c k _ _ => by rw [if_neg (Nat.not_lt_zero c)]), fun _ _ => rfl⟩ hP hS
  intro j ih H locs ls C1 hInv hP hS
  obtain ⟨i, hi, hi5, hl, hG, hO⟩ := hInv
  have g1 : C1 st = .inr (5, [.ref (ad (st + 1)), .int (f 4)]) := (hO _ (by omega)).trans hs.1
  have g2 : C1 so = .inr (5, [.ref (ad (so + 1)), .int (f2 4)]) := (hO _ (by omega)).trans ho.1
  have g3 : C1 (st + 1) = .inl (Y 3, 5, .inr (.inr (.inr (.inr qs)))) := (hO _ (by omega)).trans hqs
  have g4 : C1 (so + 1) = .inl (Y 3, 5, .inr (.inr (.inr (.inr qo)))) := (hO _ (by omega)).trans hqo
  refine lv_iload_n F.1 F.2.1 dX5_copyFrom_2 rfl (lv_at hl 0 rfl) ?_
  refine lv_iconst (v := 5) F.1 F.2.1 dX5_copyFrom_3 (by decide) ?_
  refine lv_icmp_ge (tgt := 32) F.1 F.2.1 dX5_copyFrom_4 (by decide) (fun c1 => ?_) (fun c1 => ?_)
  · refine lv_aload_n F.1 F.2.1 dX5_copyFrom_32 rfl (lv_at hl 1 rfl) ?_
    refine lv_aload_n F.1 F.2.1 dX5_copyFrom_33 rfl (lv_at hl 2 rfl) ?_
    refine gf_X5_14 F hP (by omega) g2 (v := .int (f2 4)) rfl dX5_copyFrom_34 ?_
    have hin : ¬ i < 5 := fun q => nI_ge (b := 5) q (by decide) c1
    refine pf_X5_14 F hI hP hS (by omega) g1 (Nat.le_of_ble_eq_true rfl) up_rfl dX5_copyFrom_37 (fun H locs hP hS => ?_)
    exact w_vret F hr hlocks hP hS dX5_copyFrom_40 ⟨⟨va_up_self _ _ _, ⟨qs, by rw [va_up_ne _ _ (by omega)]; exact g3, hqs1⟩, isGrid_off (isGrid_congr hG (fun c k hc _ => by rw [if_pos (by omega)])) (by omega)⟩, fun j hj => by rw [va_up_ne _ _ (by omega)]; exact hO j (by omega)⟩
  · have hin : i < 5 := by have q := i_lt c1; exact Nat.not_le.mp (fun z => i_nlt (nI_le z (by omega)) q)
    obtain ⟨q5, h5, h6⟩ := hG i hin
    obtain ⟨q7, h7, h8⟩ := ho.2.2 i hin
    have h7 : C1 (so + 2 + i) = .inl (Y 0, 20, .inl q7) := (hO _ (by omega)).trans h7
    refine lv_aload_n F.1 F.2.1 dX5_copyFrom_7 rfl (lv_at hl 2 rfl) ?_
    refine gf_X5_11 F hP (by omega) g2 (v := .ref (ad (so + 1))) rfl dX5_copyFrom_8 ?_
    refine lv_iload_n F.1 F.2.1 dX5_copyFrom_11 rfl (lv_at hl 0 rfl) ?_
    refine w_gald F hP (by omega) g4 (k := i) rfl hin (Nat.le_of_ble_eq_true rfl) (v := ad (so + 2 + i)) (hqo1 i hin) dX5_copyFrom_12 ?_
    refine lv_iconst (v := 0) F.1 F.2.1 dX5_copyFrom_13 (by decide) ?_
    refine lv_aload_n F.1 F.2.1 dX5_copyFrom_14 rfl (lv_at hl 1 rfl) ?_
    refine gf_X5_11 F hP (by omega) g1 (v := .ref (ad (st + 1))) rfl dX5_copyFrom_15 ?_
    refine lv_iload_n F.1 F.2.1 dX5_copyFrom_18 rfl (lv_at hl 0 rfl) ?_
    refine w_gald F hP (by omega) g3 (k := i) rfl hin (Nat.le_of_ble_eq_true rfl) (v := ad (st + 2 + i)) (hqs1 i hin) dX5_copyFrom_19 ?_
    refine lv_iconst (v := 0) F.1 F.2.1 dX5_copyFrom_20 (by decide) ?_
    refine lv_bipush (v := 20) F.1 F.2.1 dX5_copyFrom_21 (by decide) ?_
    refine w_acpy F hI hl.1 hP hS mw_146 (h0 := so + 2 + i) (h1 := st + 2 + i) (by omega) (by omega) h7 h5 (a := 0) (b := 0) (k := 20) rfl rfl rfl (by decide) (by decide) (by decide) (by decide) (by decide) (Nat.le_of_ble_eq_true rfl) up_rfl dX5_copyFrom_23 (fun H locs hP hS => ?_)
    have hG2 : isGrid Y (va_up C1 (st + 2 + i) (.inl (Y 0, 20, .inl (va_cpy q7 q5 0 0 20)))) (st + 2) 5 20 (fun c k => if c < i + 1 then f2 (61 + 5 * k + c) else f (61 + 5 * k + c)) := isGrid_up hG (fun k hk => by rw [pk_cpy_in (by omega) (by omega), if_pos (by omega), show 0 + (k - 0) = k by omega]; exact h8 k hk) (fun c k hc hne hk => by by_cases q : c < i <;> simp only [q, if_true, if_false] <;> first | rw [if_pos (by omega)] | rw [if_neg (by omega)])
    have hO2 : ∀ j, j < st + 2 ∨ st + 7 ≤ j → va_up C1 (st + 2 + i) (.inl (Y 0, 20, .inl (va_cpy q7 q5 0 0 20))) j = C j := fun j hj => by rw [va_up_ne _ _ (by omega)]; exact hO j hj
    refine lv_iinc (v := (nI i) + 1) (lv' := [(2, .int ((nI i) + 1)), (0, .ref (ad st)), (1, .ref (ad so))]) F.1 F.2.1 dX5_copyFrom_26 hl (k := 0) rfl rfl (by decide) rfl (fun ls hl => ?_)
    refine lv_goto (tgt := 2) F.1 F.2.1 dX5_copyFrom_29 (by decide) ?_
    exact ih _ (by omega) _ _ _ _ ⟨i + 1, rfl, by omega, (by rw [nI_succ]; exact lv_sub hl [0, 1, 2] rfl), hG2, hO2⟩ hP hS
set_option maxRecDepth 20000 in
set_option maxHeartbeats 4000000 in
/-- columns copied -/
theorem c_X3_copyFrom (l : Launch) (D : va_G) (Y : Nat → ClassId) (ad : Nat → Nat) (N : Nat) (hI : wI ad N) (C : Nat → va_E) (st so : Nat) (hh : st + 5 < N) (hh2 : so + 5 < N) (hd : st + 6 ≤ so ∨ so + 6 ≤ st) (f f2 : Nat → Int32) (hs : isLog Y ad C st f) (ho : isLog Y ad C so f2) : Met l yX3_copyFrom (wm yX3_copyFrom cX3_copyFrom 3 none) { frames := 1, cells := 0, slots := 0, locals := 24 } (wPc D Y ad N [.ref (ad st), .ref (ad so)] C) (wQv D ad N (fun C' => isLog Y ad C' st f2 ∧ ∀ j, j < st ∨ st + 6 ≤ j → C' j = C j)) 0 0 (wA ad N) := by
  obtain ⟨qs, hqs, hqs1⟩ := hs.2.1
  obtain ⟨qo, hqo, hqo1⟩ := ho.2.1
  refine wMet RX3 rfl (by decide +kernel) (Nat.le_of_ble_eq_true rfl) (lv := [(0, .ref (ad st)), (1, .ref (ad so))]) rfl ?_
  intro p e s m below meth c ls F hr hlocks hP hl
  have hS : va_S (wA ad N) s.heap s.heap [] := va_S.rf
  refine lv_iconst (v := 0) F.1 F.2.1 dX3_copyFrom_0 (by decide) ?_
  refine lv_istore_n (lv' := [(2, .int (0)), (0, .ref (ad st)), (1, .ref (ad so))]) F.1 F.2.1 dX3_copyFrom_1 rfl hl (by decide) rfl (fun ls hl => ?_)
  refine w_loop (Inv := fun j ls C' => ∃ i : Nat, j = 4 - i ∧ i ≤ 4 ∧ lv_has ls 3 [(2, .int (nI i)), (0, .ref (ad st)), (1, .ref (ad so))] ∧ isGrid Y C' (st + 2) 4 10 (fun c k => if c < i then f2 (21 + 4 * k + c) else f (21 + 4 * k + c)) ∧ (∀ j, j < st + 2 ∨ st + 6 ≤ j → C' j = C j)) ?_ 4 ⟨0, rfl, by decide, lv_sub hl [0, 1, 2] rfl, isGrid_congr hs.2.2 (fun c k _ _ => by rw [if_neg (Nat.not_lt_zero c)]), fun _ _ => rfl⟩ hP hS
  intro j ih H locs ls C1 hInv hP hS
  obtain ⟨i, hi, hi5, hl, hG, hO⟩ := hInv
  have g1 : C1 st = .inr (3, [.ref (ad (st + 1)), .int (f 20)]) := (hO _ (by omega)).trans hs.1
  have g2 : C1 so = .inr (3, [.ref (ad (so + 1)), .int (f2 20)]) := (hO _ (by omega)).trans ho.1
  have g3 : C1 (st + 1) = .inl (Y 3, 4, .inr (.inr (.inr (.inr qs)))) := (hO _ (by omega)).trans hqs
  have g4 : C1 (so + 1) = .inl (Y 3, 4, .inr (.inr (.inr (.inr qo)))) := (hO _ (by omega)).trans hqo
  refine lv_iload_n F.1 F.2.1 dX3_copyFrom_2 rfl (lv_at hl 0 rfl) ?_
  refine lv_iconst (v := 4) F.1 F.2.1 dX3_copyFrom_3 (by decide) ?_
  refine lv_icmp_ge (tgt := 32) F.1 F.2.1 dX3_copyFrom_4 (by decide) (fun c1 => ?_) (fun c1 => ?_)
  · refine lv_aload_n F.1 F.2.1 dX3_copyFrom_32 rfl (lv_at hl 1 rfl) ?_
    refine lv_aload_n F.1 F.2.1 dX3_copyFrom_33 rfl (lv_at hl 2 rfl) ?_
    refine gf_X3_14 F hP (by omega) g2 (v := .int (f2 20)) rfl dX3_copyFrom_34 ?_
    have hin : ¬ i < 4 := fun q => nI_ge (b := 4) q (by decide) c1
    refine pf_X3_14 F hI hP hS (by omega) g1 (Nat.le_of_ble_eq_true rfl) up_rfl dX3_copyFrom_37 (fun H locs hP hS => ?_)
    exact w_vret F hr hlocks hP hS dX3_copyFrom_40 ⟨⟨va_up_self _ _ _, ⟨qs, by rw [va_up_ne _ _ (by omega)]; exact g3, hqs1⟩, isGrid_off (isGrid_congr hG (fun c k hc _ => by rw [if_pos (by omega)])) (by omega)⟩, fun j hj => by rw [va_up_ne _ _ (by omega)]; exact hO j (by omega)⟩
  · have hin : i < 4 := by have q := i_lt c1; exact Nat.not_le.mp (fun z => i_nlt (nI_le z (by omega)) q)
    obtain ⟨q5, h5, h6⟩ := hG i hin
    obtain ⟨q7, h7, h8⟩ := ho.2.2 i hin
    have h7 : C1 (so + 2 + i) = .inl (Y 0, 10, .inl q7) := (hO _ (by omega)).trans h7
    refine lv_aload_n F.1 F.2.1 dX3_copyFrom_7 rfl (lv_at hl 2 rfl) ?_
    refine gf_X3_11 F hP (by omega) g2 (v := .ref (ad (so + 1))) rfl dX3_copyFrom_8 ?_
    refine lv_iload_n F.1 F.2.1 dX3_copyFrom_11 rfl (lv_at hl 0 rfl) ?_
    refine w_gald F hP (by omega) g4 (k := i) rfl hin (Nat.le_of_ble_eq_true rfl) (v := ad (so + 2 + i)) (hqo1 i hin) dX3_copyFrom_12 ?_
    refine lv_iconst (v := 0) F.1 F.2.1 dX3_copyFrom_13 (by decide) ?_
    refine lv_aload_n F.1 F.2.1 dX3_copyFrom_14 rfl (lv_at hl 1 rfl) ?_
    refine gf_X3_11 F hP (by omega) g1 (v := .ref (ad (st + 1))) rfl dX3_copyFrom_15 ?_
    refine lv_iload_n F.1 F.2.1 dX3_copyFrom_18 rfl (lv_at hl 0 rfl) ?_
    refine w_gald F hP (by omega) g3 (k := i) rfl hin (Nat.le_of_ble_eq_true rfl) (v := ad (st + 2 + i)) (hqs1 i hin) dX3_copyFrom_19 ?_
    refine lv_iconst (v := 0) F.1 F.2.1 dX3_copyFrom_20 (by decide) ?_
    refine lv_bipush (v := 10) F.1 F.2.1 dX3_copyFrom_21 (by decide) ?_
    refine w_acpy F hI hl.1 hP hS mw_164 (h0 := so + 2 + i) (h1 := st + 2 + i) (by omega) (by omega) h7 h5 (a := 0) (b := 0) (k := 10) rfl rfl rfl (by decide) (by decide) (by decide) (by decide) (by decide) (Nat.le_of_ble_eq_true rfl) up_rfl dX3_copyFrom_23 (fun H locs hP hS => ?_)
    have hG2 : isGrid Y (va_up C1 (st + 2 + i) (.inl (Y 0, 10, .inl (va_cpy q7 q5 0 0 10)))) (st + 2) 4 10 (fun c k => if c < i + 1 then f2 (21 + 4 * k + c) else f (21 + 4 * k + c)) := isGrid_up hG (fun k hk => by rw [pk_cpy_in (by omega) (by omega), if_pos (by omega), show 0 + (k - 0) = k by omega]; exact h8 k hk) (fun c k hc hne hk => by by_cases q : c < i <;> simp only [q, if_true, if_false] <;> first | rw [if_pos (by omega)] | rw [if_neg (by omega)])
    have hO2 : ∀ j, j < st + 2 ∨ st + 6 ≤ j → va_up C1 (st + 2 + i) (.inl (Y 0, 10, .inl (va_cpy q7 q5 0 0 10))) j = C j := fun j hj => by rw [va_up_ne _ _ (by omega)]; exact hO j hj
    refine lv_iinc (v := (nI i) + 1) (lv' := [(2, .int ((nI i) + 1)), (0, .ref (ad st)), (1, .ref (ad so))]) F.1 F.2.1 dX3_copyFrom_26 hl (k := 0) rfl rfl (by decide) rfl (fun ls hl => ?_)
    refine lv_goto (tgt := 2) F.1 F.2.1 dX3_copyFrom_29 (by decide) ?_
    exact ih _ (by omega) _ _ _ _ ⟨i + 1, rfl, by omega, (by rw [nI_succ]; exact lv_sub hl [0, 1, 2] rfl), hG2, hO2⟩ hP hS
end
section
/-! HoopStairs$Stair and RunLog: parts come and go, runs are listed -/
theorem ins_col {f : Nat → Int32} {kd v : Int32} {k n c j : Nat} (h4 : f 4 = nI n) (hn : n < 20) (hc : c < 5) (hj : j < 20) : T_insert k kd v f (61 + 5 * j + c) = if j = k then (if c = 0 then kd else if c = 1 then v else 0) else if k < j ∧ j ≤ n then f (61 + 5 * (j - 1) + c) else f (61 + 5 * j + c) := by
  have hm : (f 4).toNatClampNeg = n := by rw [h4]; exact nI_clamp (by omega)
  unfold T_insert
  rw [hm, if_neg (by omega), if_neg (by omega)]
  by_cases a : j = k
  · rw [if_pos a]
    by_cases b : c = 0
    · rw [if_pos b, if_pos (by omega)]
    · rw [if_neg b, if_neg (by omega)]
      by_cases d : c = 1
      · rw [if_pos d, if_pos (by omega)]
      · rw [if_neg d, if_neg (by omega), if_pos (by omega)]
  · rw [if_neg a, if_neg (by omega), if_neg (by omega), if_neg (by omega)]
    by_cases b : k < j ∧ j ≤ n
    · rw [if_pos b, if_pos (by omega)]
      exact congrArg f (by omega)
    · rw [if_neg b, if_neg (by omega)]
theorem rem_col {f : Nat → Int32} {k n c j : Nat} (h4 : f 4 = nI n) (hn : n ≤ 20) (hk : k < n) (hc : c < 5) (hj : j < 20) : T_remove k f (61 + 5 * j + c) = if k ≤ j ∧ j + 1 < n then f (61 + 5 * (j + 1) + c) else f (61 + 5 * j + c) := by
  have hm : (f 4).toNatClampNeg = n := by rw [h4]; exact nI_clamp (by omega)
  unfold T_remove
  rw [hm, if_neg (by omega), if_neg (by omega)]
  by_cases b : k ≤ j ∧ j + 1 < n
  · rw [if_pos b, if_pos (by omega)]
    exact congrArg f (by omega)
  · rw [if_neg b, if_neg (by omega)]
set_option maxRecDepth 20000 in
set_option maxHeartbeats 4000000 in
/-- a part comes -/
theorem c_X5_insert (l : Launch) (D : va_G) (Y : Nat → ClassId) (ad : Nat → Nat) (N : Nat) (hI : wI ad N) (C : Nat → va_E) (st : Nat) (hh : st + 6 < N) (f : Nat → Int32) (hs : isStair Y ad C st f) (kp n : Nat) (kd v : Int32) (hk : kp ≤ n) (hn : n < 20) (h4 : f 4 = nI n) : Met l yX5_insert (wm yX5_insert cX5_insert 5 none) { frames := 1, cells := 0, slots := 0, locals := 24 } (wPc D Y ad N [.ref (ad st), .int (nI kp), .int (kd), .int (v)] C) (wQv D ad N (fun C' => isStair Y ad C' st (T_insert kp kd v f) ∧ ∀ j, j < st ∨ st + 7 ≤ j → C' j = C j)) 0 0 (wA ad N) := by
  obtain ⟨qs, hqs, hqs1⟩ := hs.2.1
  refine wMet RX5 rfl (by decide +kernel) (Nat.le_of_ble_eq_true rfl) (lv := [(0, .ref (ad st)), (1, .int (nI kp)), (2, .int (kd)), (3, .int (v))]) rfl ?_
  intro p e s m below meth c ls F hr hlocks hP hl
  have hS : va_S (wA ad N) s.heap s.heap [] := va_S.rf
  refine lv_iload_n F.1 F.2.1 dX5_insert_0 rfl (lv_at hl 1 rfl) ?_
  refine lv_if_lt (tgt := 21) F.1 F.2.1 dX5_insert_1 (by decide) (fun c1 => False.elim (nI_pos (by omega) c1)) (fun c1 => ?_)
  refine lv_iload_n F.1 F.2.1 dX5_insert_4 rfl (lv_at hl 1 rfl) ?_
  refine lv_aload_n F.1 F.2.1 dX5_insert_5 rfl (lv_at hl 0 rfl) ?_
  refine gf_X5_14 F hP (by omega) hs.1 (v := .int (f 4)) rfl dX5_insert_6 ?_
  refine lv_icmp_gt (tgt := 21) F.1 F.2.1 dX5_insert_9 (by decide) (fun c2 => False.elim ((by rw [h4] at c2; exact absurd c2 (i_nlt (nI_le hk (by omega)))))) (fun c2 => ?_)
  refine lv_aload_n F.1 F.2.1 dX5_insert_12 rfl (lv_at hl 0 rfl) ?_
  refine gf_X5_14 F hP (by omega) hs.1 (v := .int (f 4)) rfl dX5_insert_13 ?_
  refine lv_bipush (v := 20) F.1 F.2.1 dX5_insert_16 (by decide) ?_
  refine lv_icmp_lt (tgt := 22) F.1 F.2.1 dX5_insert_18 (by decide) (fun c3 => ?_) (fun c3 => False.elim ((by rw [h4] at c3; exact c3 (nI_lt hn (by decide)))))
  refine lv_iconst (v := 0) F.1 F.2.1 dX5_insert_22 (by decide) ?_
  refine lv_istore (lv' := [(4, .int (0)), (0, .ref (ad st)), (1, .int (nI kp)), (2, .int (kd)), (3, .int (v))]) F.1 F.2.1 dX5_insert_23 hl (by decide) rfl (fun ls hl => ?_)
  refine w_loop (Inv := fun j ls C' => ∃ i : Nat, j = 5 - i ∧ i ≤ 5 ∧ lv_has ls 5 [(4, .int (nI i)), (0, .ref (ad st)), (1, .int (nI kp)), (2, .int (kd)), (3, .int (v))] ∧ isGrid Y C' (st + 2) 5 20 (fun c k => if c < i then (if k = kp then 0 else if kp < k ∧ k ≤ n then f (61 + 5 * (k - 1) + c) else f (61 + 5 * k + c)) else f (61 + 5 * k + c)) ∧ (∀ j, j < st + 2 ∨ st + 7 ≤ j → C' j = C j)) ?_ 5 ⟨0, rfl, by decide, lv_sub hl [0, 1, 2, 3, 4] rfl, isGrid_congr hs.2.2 (fun c k _ _ => by rw [if_neg (Nat.not_lt_zero c)]), fun _ _ => rfl⟩ hP hS
  intro j ih H locs ls C1 hInv hP hS
  obtain ⟨i, hi, hi5, hl, hG, hO⟩ := hInv
  have g1 : C1 st = .inr (5, [.ref (ad (st + 1)), .int (f 4)]) := (hO _ (by omega)).trans hs.1
  have g3 : C1 (st + 1) = .inl (Y 3, 5, .inr (.inr (.inr (.inr qs)))) := (hO _ (by omega)).trans hqs
  refine lv_iload F.1 F.2.1 dX5_insert_25 (lv_at hl 0 rfl) ?_
  refine lv_iconst (v := 5) F.1 F.2.1 dX5_insert_27 (by decide) ?_
  refine lv_icmp_ge (tgt := 74) F.1 F.2.1 dX5_insert_28 (by decide) (fun c4 => ?_) (fun c4 => ?_)
  · have hin : ¬ i < 5 := fun q => nI_ge (b := 5) q (by decide) c4
    have hG : isGrid Y C1 (st + 2) 5 20 (fun c k => (if k = kp then 0 else if kp < k ∧ k ≤ n then f (61 + 5 * (k - 1) + c) else f (61 + 5 * k + c))) := isGrid_congr hG (fun c k hc _ => by rw [if_pos (by omega)])
    obtain ⟨q8, h8, h8b⟩ := hG 0 (by decide)
    refine lv_aload_n F.1 F.2.1 dX5_insert_74 rfl (lv_at hl 1 rfl) ?_
    refine gf_X5_11 F hP (by omega) g1 (v := .ref (ad (st + 1))) rfl dX5_insert_75 ?_
    refine lv_iconst (v := 0) F.1 F.2.1 dX5_insert_78 (by decide) ?_
    refine w_gald F hP (by omega) g3 (k := 0) rfl (by decide) (Nat.le_of_ble_eq_true rfl) (v := ad (st + 2 + 0)) (hqs1 0 (by decide)) dX5_insert_79 ?_
    refine lv_iload_n F.1 F.2.1 dX5_insert_80 rfl (lv_at hl 2 rfl) ?_
    refine lv_iload_n F.1 F.2.1 dX5_insert_81 rfl (lv_at hl 3 rfl) ?_
    obtain ⟨Ca, eCa⟩ : ∃ z, z = va_up C1 (st + 2 + 0) (.inl (Y 0, 20, .inl (upd q8 kp kd))) := ⟨_, rfl⟩
    refine w_iast F hI hP hS (by omega) h8 (k := kp) rfl (by omega) (by decide) (C1 := Ca) (fun j => by rw [eCa]) dX5_insert_82 (fun H locs hP hS => ?_)
    have hGa : isGrid Y Ca (st + 2) 5 20 (fun c k => if k = kp ∧ c = 0 then kd else if k = kp then 0 else if kp < k ∧ k ≤ n then f (61 + 5 * (k - 1) + c) else f (61 + 5 * k + c)) := by
      rw [eCa]
      refine isGrid_up hG (fun k hkk => ?_) (fun c k hc hne hkk => by rw [if_neg (by omega)])
      by_cases a : k = kp
      · rw [if_pos ⟨a, rfl⟩, a, upd_s]
      · rw [if_neg (fun z => a z.1), upd_n a, (h8b k hkk)]
    have g1a : Ca st = .inr (5, [.ref (ad (st + 1)), .int (f 4)]) := by rw [eCa, va_up_ne _ _ (by omega)]; exact g1
    have g3a : Ca (st + 1) = .inl (Y 3, 5, .inr (.inr (.inr (.inr qs)))) := by rw [eCa, va_up_ne _ _ (by omega)]; exact g3
    have hOa : ∀ j, j < st + 2 ∨ st + 7 ≤ j → Ca j = C j := fun j hj => by rw [eCa, va_up_ne _ _ (by omega)]; exact hO j hj
    obtain ⟨q9, h9, h9b⟩ := hGa 1 (by decide)
    have h9b : ∀ k, k < 20 → q9 k = if k = kp ∧ (1 : Nat) = 0 then kd else if k = kp then 0 else if kp < k ∧ k ≤ n then f (61 + 5 * (k - 1) + 1) else f (61 + 5 * k + 1) := h9b
    refine lv_aload_n F.1 F.2.1 dX5_insert_83 rfl (lv_at hl 1 rfl) ?_
    refine gf_X5_11 F hP (by omega) g1a (v := .ref (ad (st + 1))) rfl dX5_insert_84 ?_
    refine lv_iconst (v := 1) F.1 F.2.1 dX5_insert_87 (by decide) ?_
    refine w_gald F hP (by omega) g3a (k := 1) rfl (by decide) (Nat.le_of_ble_eq_true rfl) (v := ad (st + 2 + 1)) (hqs1 1 (by decide)) dX5_insert_88 ?_
    refine lv_iload_n F.1 F.2.1 dX5_insert_89 rfl (lv_at hl 2 rfl) ?_
    refine lv_iload_n F.1 F.2.1 dX5_insert_90 rfl (lv_at hl 4 rfl) ?_
    obtain ⟨Cb, eCb⟩ : ∃ z, z = va_up Ca (st + 2 + 1) (.inl (Y 0, 20, .inl (upd q9 kp v))) := ⟨_, rfl⟩
    refine w_iast F hI hP hS (by omega) h9 (k := kp) rfl (by omega) (by decide) (C1 := Cb) (fun j => by rw [eCb]) dX5_insert_91 (fun H locs hP hS => ?_)
    have hGb : isGrid Y Cb (st + 2) 5 20 (fun c k => T_insert kp kd v f (61 + 5 * k + c)) := by
      rw [eCb]
      refine isGrid_up hGa (fun k hkk => ?_) (fun c k hc hne hkk => ?_)
      · rw [ins_col h4 hn (by decide) hkk]
        by_cases a : k = kp
        · rw [if_pos a, a, upd_s]; rfl
        · rw [if_neg a, upd_n a, h9b k hkk, if_neg (show ¬ (k = kp ∧ (1 : Nat) = 0) from fun z => a z.1), if_neg a]
      · rw [ins_col h4 hn hc hkk]
        show _ = if k = kp ∧ c = 0 then kd else if k = kp then 0 else if kp < k ∧ k ≤ n then f (61 + 5 * (k - 1) + c) else f (61 + 5 * k + c)
        by_cases a : k = kp
        · rw [if_pos a]
          by_cases b : c = 0
          · rw [if_pos b, if_pos ⟨a, b⟩]
          · rw [if_neg b, if_neg hne, if_neg (show ¬ (k = kp ∧ c = 0) from fun z => b z.2), if_pos a]
        · rw [if_neg a, if_neg (show ¬ (k = kp ∧ c = 0) from fun z => a z.1), if_neg a]
    have g1b : Cb st = .inr (5, [.ref (ad (st + 1)), .int (f 4)]) := by rw [eCb, va_up_ne _ _ (by omega)]; exact g1a
    have g3b : Cb (st + 1) = .inl (Y 3, 5, .inr (.inr (.inr (.inr qs)))) := by rw [eCb, va_up_ne _ _ (by omega)]; exact g3a
    have hOb : ∀ j, j < st + 2 ∨ st + 7 ≤ j → Cb j = C j := fun j hj => by rw [eCb, va_up_ne _ _ (by omega)]; exact hOa j hj
    refine lv_aload_n F.1 F.2.1 dX5_insert_92 rfl (lv_at hl 1 rfl) ?_
    refine lv_dup F.1 F.2.1 dX5_insert_93 rfl ?_
    refine gf_X5_14 F hP (by omega) g1b (v := .int (f 4)) rfl dX5_insert_94 ?_
    refine lv_iconst (v := 1) F.1 F.2.1 dX5_insert_97 (by decide) ?_
    refine lv_iadd F.1 F.2.1 dX5_insert_98 ?_
    refine pf_X5_14 F hI hP hS (by omega) g1b (Nat.le_of_ble_eq_true rfl) up_rfl dX5_insert_99 (fun H locs hP hS => ?_)
    exact w_vret F hr hlocks hP hS dX5_insert_102 ⟨⟨va_up_self _ _ _, ⟨qs, by rw [va_up_ne _ _ (by omega)]; exact g3b, hqs1⟩, isGrid_off hGb (by omega)⟩, fun j hj => by rw [va_up_ne _ _ (by omega)]; exact hOb j (by omega)⟩
  · have hin : i < 5 := by have q := i_lt c4; exact Nat.not_le.mp (fun z => i_nlt (nI_le z (by omega)) q)
    obtain ⟨q5, h5, h6⟩ := hG i hin
    have h6 : ∀ k, k < 20 → q5 k = f (61 + 5 * k + i) := fun k hk => (h6 k hk).trans (if_neg (Nat.lt_irrefl i))
    refine lv_aload_n F.1 F.2.1 dX5_insert_31 rfl (lv_at hl 1 rfl) ?_
    refine gf_X5_11 F hP (by omega) g1 (v := .ref (ad (st + 1))) rfl dX5_insert_32 ?_
    refine lv_iload F.1 F.2.1 dX5_insert_35 (lv_at hl 0 rfl) ?_
    refine w_gald F hP (by omega) g3 (k := i) rfl hin (Nat.le_of_ble_eq_true rfl) (v := ad (st + 2 + i)) (hqs1 i hin) dX5_insert_37 ?_
    refine lv_iload_n F.1 F.2.1 dX5_insert_38 rfl (lv_at hl 2 rfl) ?_
    refine lv_aload_n F.1 F.2.1 dX5_insert_39 rfl (lv_at hl 1 rfl) ?_
    refine gf_X5_11 F hP (by omega) g1 (v := .ref (ad (st + 1))) rfl dX5_insert_40 ?_
    refine lv_iload F.1 F.2.1 dX5_insert_43 (lv_at hl 0 rfl) ?_
    refine w_gald F hP (by omega) g3 (k := i) rfl hin (Nat.le_of_ble_eq_true rfl) (v := ad (st + 2 + i)) (hqs1 i hin) dX5_insert_45 ?_
    refine lv_iload_n F.1 F.2.1 dX5_insert_46 rfl (lv_at hl 2 rfl) ?_
    refine lv_iconst (v := 1) F.1 F.2.1 dX5_insert_47 (by decide) ?_
    refine lv_iadd F.1 F.2.1 dX5_insert_48 ?_
    refine lv_aload_n F.1 F.2.1 dX5_insert_49 rfl (lv_at hl 1 rfl) ?_
    refine gf_X5_14 F hP (by omega) g1 (v := .int (f 4)) rfl dX5_insert_50 ?_
    refine lv_iload_n F.1 F.2.1 dX5_insert_53 rfl (lv_at hl 2 rfl) ?_
    refine lv_isub F.1 F.2.1 dX5_insert_54 ?_
    refine w_acpy F hI hl.1 hP hS mw_146 (h0 := st + 2 + i) (h1 := st + 2 + i) (by omega) (by omega) h5 h5 (a := kp) (b := kp + 1) (k := n - kp) rfl (nI_succ kp).symm (by rw [h4]; exact pk_sub hk) (by omega) (by omega) (by decide) (by decide) (by decide) (Nat.le_of_ble_eq_true rfl) up_rfl dX5_insert_55 (fun H locs hP hS => ?_)
    have g1 : va_up C1 (st + 2 + i) (.inl (Y 0, 20, .inl (va_cpy q5 q5 kp (kp + 1) (n - kp)))) st = .inr (5, [.ref (ad (st + 1)), .int (f 4)]) := (va_up_ne _ _ (by omega)).trans g1
    have g3 : va_up C1 (st + 2 + i) (.inl (Y 0, 20, .inl (va_cpy q5 q5 kp (kp + 1) (n - kp)))) (st + 1) = .inl (Y 3, 5, .inr (.inr (.inr (.inr qs)))) := (va_up_ne _ _ (by omega)).trans g3
    refine lv_aload_n F.1 F.2.1 dX5_insert_58 rfl (lv_at hl 1 rfl) ?_
    refine gf_X5_11 F hP (by omega) g1 (v := .ref (ad (st + 1))) rfl dX5_insert_59 ?_
    refine lv_iload F.1 F.2.1 dX5_insert_62 (lv_at hl 0 rfl) ?_
    refine w_gald F hP (by omega) g3 (k := i) rfl hin (Nat.le_of_ble_eq_true rfl) (v := ad (st + 2 + i)) (hqs1 i hin) dX5_insert_64 ?_
    refine lv_iload_n F.1 F.2.1 dX5_insert_65 rfl (lv_at hl 2 rfl) ?_
    refine lv_iconst (v := 0) F.1 F.2.1 dX5_insert_66 (by decide) ?_
    refine w_iast F hI hP hS (by omega) (va_up_self _ _ _) (k := kp) rfl (by omega) (by decide) (C1 := va_up C1 (st + 2 + i) (.inl (Y 0, 20, .inl (upd (va_cpy q5 q5 kp (kp + 1) (n - kp)) kp 0)))) up_self dX5_insert_67 (fun H locs hP hS => ?_)
    have hG2 : isGrid Y (va_up C1 (st + 2 + i) (.inl (Y 0, 20, .inl (upd (va_cpy q5 q5 kp (kp + 1) (n - kp)) kp 0)))) (st + 2) 5 20 (fun c k => if c < i + 1 then (if k = kp then 0 else if kp < k ∧ k ≤ n then f (61 + 5 * (k - 1) + c) else f (61 + 5 * k + c)) else f (61 + 5 * k + c)) := isGrid_up hG (fun k hkk => by
        rw [if_pos (Nat.lt_succ_self i)]
        by_cases a : k = kp
        · rw [if_pos a, a, upd_s]
        · rw [if_neg a, upd_n a]
          by_cases b : kp < k ∧ k ≤ n
          · rw [if_pos b, pk_cpy_in (by omega) (by omega), h6 _ (by omega), show kp + (k - (kp + 1)) = k - 1 by omega]
          · rw [if_neg b, pk_cpy_out (by omega), h6 _ hkk]) (fun c k hc hne hkk => by by_cases q : c < i <;> simp only [q, if_true, if_false] <;> first | rw [if_pos (by omega)] | rw [if_neg (by omega)])
    have hO2 : ∀ j, j < st + 2 ∨ st + 7 ≤ j → va_up C1 (st + 2 + i) (.inl (Y 0, 20, .inl (upd (va_cpy q5 q5 kp (kp + 1) (n - kp)) kp 0))) j = C j := fun j hj => by rw [va_up_ne _ _ (by omega)]; exact hO j hj
    refine lv_iinc (v := (nI i) + 1) (lv' := [(4, .int ((nI i) + 1)), (0, .ref (ad st)), (1, .int (nI kp)), (2, .int (kd)), (3, .int (v))]) F.1 F.2.1 dX5_insert_68 hl (k := 0) rfl rfl (by decide) rfl (fun ls hl => ?_)
    refine lv_goto (tgt := 25) F.1 F.2.1 dX5_insert_71 (by decide) ?_
    exact ih _ (by omega) _ _ _ _ ⟨i + 1, rfl, by omega, (by rw [nI_succ]; exact lv_sub hl [0, 1, 2, 3, 4] rfl), hG2, hO2⟩ hP hS
end
section
/-! HoopStairs$Stair.remove, RunLog.add -/
set_option maxRecDepth 20000 in
set_option maxHeartbeats 4000000 in
/-- a part goes -/
theorem c_X5_remove (l : Launch) (D : va_G) (Y : Nat → ClassId) (ad : Nat → Nat) (N : Nat) (hI : wI ad N) (C : Nat → va_E) (st : Nat) (hh : st + 6 < N) (f : Nat → Int32) (hs : isStair Y ad C st f) (kp n : Nat) (hk : kp < n) (hn : n ≤ 20) (h4 : f 4 = nI n) : Met l yX5_remove (wm yX5_remove cX5_remove 3 none) { frames := 1, cells := 0, slots := 0, locals := 24 } (wPc D Y ad N [.ref (ad st), .int (nI kp)] C) (wQv D ad N (fun C' => isStair Y ad C' st (T_remove kp f) ∧ ∀ j, j < st ∨ st + 7 ≤ j → C' j = C j)) 0 0 (wA ad N) := by
  obtain ⟨qs, hqs, hqs1⟩ := hs.2.1
  refine wMet RX5 rfl (by decide +kernel) (Nat.le_of_ble_eq_true rfl) (lv := [(0, .ref (ad st)), (1, .int (nI kp))]) rfl ?_
  intro p e s m below meth c ls F hr hlocks hP hl
  have hS : va_S (wA ad N) s.heap s.heap [] := va_S.rf
  refine lv_aload_n F.1 F.2.1 dX5_remove_0 rfl (lv_at hl 0 rfl) ?_
  refine lv_iload_n F.1 F.2.1 dX5_remove_1 rfl (lv_at hl 1 rfl) ?_
  refine w_calli F hP hS (c_X5_has l D Y ad N hI _ st (by omega) _ _ hs.1 (nI kp)) (cwVm 1 F.2.2.2.2.1 (fun _ h => h) mw_234 mw_243 mw_232 mw_233 mw_42 rfl rfl ydX5_has ⟨by decide, by decide⟩) (by omega) hs.1 rfl rfl hl.1 rfl (Nat.le_of_ble_eq_true rfl) dX5_remove_2 ⟨Nat.zero_le _, Nat.zero_le _⟩ (fun r C2 H locs hq hP hS => ?_)
  obtain ⟨hq1, hq2⟩ := hq; rw [hq1] at hP
  rw [(if_pos ⟨nI_pos' (by omega), (by rw [h4]; exact nI_lt hk (by omega)), nI_lt (show kp < 20 by omega) (by decide)⟩)] at hq2; subst hq2
  refine lv_if_ne (tgt := 9) F.1 F.2.1 dX5_remove_5 (by decide) (fun c1 => ?_) (fun c1 => False.elim (absurd c1 (by decide)))
  refine lv_iconst (v := 0) F.1 F.2.1 dX5_remove_9 (by decide) ?_
  refine lv_istore_n (lv' := [(2, .int (0)), (0, .ref (ad st)), (1, .int (nI kp))]) F.1 F.2.1 dX5_remove_10 rfl hl (by decide) rfl (fun ls hl => ?_)
  refine w_loop (Inv := fun j ls C' => ∃ i : Nat, j = 5 - i ∧ i ≤ 5 ∧ lv_has ls 3 [(2, .int (nI i)), (0, .ref (ad st)), (1, .int (nI kp))] ∧ isGrid Y C' (st + 2) 5 20 (fun c k => if c < i then (if kp ≤ k ∧ k + 1 < n then f (61 + 5 * (k + 1) + c) else f (61 + 5 * k + c)) else f (61 + 5 * k + c)) ∧ (∀ j, j < st + 2 ∨ st + 7 ≤ j → C' j = C j)) ?_ 5 ⟨0, rfl, by decide, lv_sub hl [0, 1, 2] rfl, isGrid_congr hs.2.2 (fun c k _ _ => by rw [if_neg (Nat.not_lt_zero c)]), fun _ _ => rfl⟩ hP hS
  intro j ih H locs ls C1 hInv hP hS
  obtain ⟨i, hi, hi5, hl, hG, hO⟩ := hInv
  have g1 : C1 st = .inr (5, [.ref (ad (st + 1)), .int (f 4)]) := (hO _ (by omega)).trans hs.1
  have g3 : C1 (st + 1) = .inl (Y 3, 5, .inr (.inr (.inr (.inr qs)))) := (hO _ (by omega)).trans hqs
  refine lv_iload_n F.1 F.2.1 dX5_remove_11 rfl (lv_at hl 0 rfl) ?_
  refine lv_iconst (v := 5) F.1 F.2.1 dX5_remove_12 (by decide) ?_
  refine lv_icmp_ge (tgt := 49) F.1 F.2.1 dX5_remove_13 (by decide) (fun c2 => ?_) (fun c2 => ?_)
  · have hin : ¬ i < 5 := fun q => nI_ge (b := 5) q (by decide) c2
    have hG : isGrid Y C1 (st + 2) 5 20 (fun c k => (if kp ≤ k ∧ k + 1 < n then f (61 + 5 * (k + 1) + c) else f (61 + 5 * k + c))) := isGrid_congr hG (fun c k hc _ => by rw [if_pos (by omega)])
    refine lv_aload_n F.1 F.2.1 dX5_remove_49 rfl (lv_at hl 1 rfl) ?_
    refine lv_dup F.1 F.2.1 dX5_remove_50 rfl ?_
    refine gf_X5_14 F hP (by omega) g1 (v := .int (f 4)) rfl dX5_remove_51 ?_
    refine lv_iconst (v := 1) F.1 F.2.1 dX5_remove_54 (by decide) ?_
    refine lv_isub F.1 F.2.1 dX5_remove_55 ?_
    refine pf_X5_14 F hI hP hS (by omega) g1 (Nat.le_of_ble_eq_true rfl) up_rfl dX5_remove_56 (fun H locs hP hS => ?_)
    exact w_vret F hr hlocks hP hS dX5_remove_59 ⟨⟨va_up_self _ _ _, ⟨qs, by rw [va_up_ne _ _ (by omega)]; exact g3, hqs1⟩, isGrid_off (isGrid_congr hG (fun c k hc hkk => (rem_col h4 hn hk hc hkk).symm)) (by omega)⟩, fun j hj => by rw [va_up_ne _ _ (by omega)]; exact hO j (by omega)⟩
  · have hin : i < 5 := by have q := i_lt c2; exact Nat.not_le.mp (fun z => i_nlt (nI_le z (by omega)) q)
    obtain ⟨q5, h5, h6⟩ := hG i hin
    have h6 : ∀ k, k < 20 → q5 k = f (61 + 5 * k + i) := fun k hk => (h6 k hk).trans (if_neg (Nat.lt_irrefl i))
    refine lv_aload_n F.1 F.2.1 dX5_remove_16 rfl (lv_at hl 1 rfl) ?_
    refine gf_X5_11 F hP (by omega) g1 (v := .ref (ad (st + 1))) rfl dX5_remove_17 ?_
    refine lv_iload_n F.1 F.2.1 dX5_remove_20 rfl (lv_at hl 0 rfl) ?_
    refine w_gald F hP (by omega) g3 (k := i) rfl hin (Nat.le_of_ble_eq_true rfl) (v := ad (st + 2 + i)) (hqs1 i hin) dX5_remove_21 ?_
    refine lv_iload_n F.1 F.2.1 dX5_remove_22 rfl (lv_at hl 2 rfl) ?_
    refine lv_iconst (v := 1) F.1 F.2.1 dX5_remove_23 (by decide) ?_
    refine lv_iadd F.1 F.2.1 dX5_remove_24 ?_
    refine lv_aload_n F.1 F.2.1 dX5_remove_25 rfl (lv_at hl 1 rfl) ?_
    refine gf_X5_11 F hP (by omega) g1 (v := .ref (ad (st + 1))) rfl dX5_remove_26 ?_
    refine lv_iload_n F.1 F.2.1 dX5_remove_29 rfl (lv_at hl 0 rfl) ?_
    refine w_gald F hP (by omega) g3 (k := i) rfl hin (Nat.le_of_ble_eq_true rfl) (v := ad (st + 2 + i)) (hqs1 i hin) dX5_remove_30 ?_
    refine lv_iload_n F.1 F.2.1 dX5_remove_31 rfl (lv_at hl 2 rfl) ?_
    refine lv_aload_n F.1 F.2.1 dX5_remove_32 rfl (lv_at hl 1 rfl) ?_
    refine gf_X5_14 F hP (by omega) g1 (v := .int (f 4)) rfl dX5_remove_33 ?_
    refine lv_iload_n F.1 F.2.1 dX5_remove_36 rfl (lv_at hl 2 rfl) ?_
    refine lv_isub F.1 F.2.1 dX5_remove_37 ?_
    refine lv_iconst (v := 1) F.1 F.2.1 dX5_remove_38 (by decide) ?_
    refine lv_isub F.1 F.2.1 dX5_remove_39 ?_
    refine w_acpy F hI hl.1 hP hS mw_146 (h0 := st + 2 + i) (h1 := st + 2 + i) (by omega) (by omega) h5 h5 (a := kp + 1) (b := kp) (k := n - kp - 1) (nI_succ kp).symm rfl (by rw [h4, pk_sub (by omega)]; exact pk_sub (b := 1) (by omega)) (by omega) (by omega) (by decide) (by decide) (by decide) (Nat.le_of_ble_eq_true rfl) up_rfl dX5_remove_40 (fun H locs hP hS => ?_)
    have hG2 : isGrid Y (va_up C1 (st + 2 + i) (.inl (Y 0, 20, .inl (va_cpy q5 q5 (kp + 1) kp (n - kp - 1))))) (st + 2) 5 20 (fun c k => if c < i + 1 then (if kp ≤ k ∧ k + 1 < n then f (61 + 5 * (k + 1) + c) else f (61 + 5 * k + c)) else f (61 + 5 * k + c)) := isGrid_up hG (fun k hkk => by
        rw [if_pos (Nat.lt_succ_self i)]
        by_cases b : kp ≤ k ∧ k + 1 < n
        · rw [if_pos b, pk_cpy_in (by omega) (by omega), h6 _ (by omega), show kp + 1 + (k - kp) = k + 1 by omega]
        · rw [if_neg b, pk_cpy_out (by omega), h6 _ hkk]) (fun c k hc hne hkk => by by_cases q : c < i <;> simp only [q, if_true, if_false] <;> first | rw [if_pos (by omega)] | rw [if_neg (by omega)])
    have hO2 : ∀ j, j < st + 2 ∨ st + 7 ≤ j → va_up C1 (st + 2 + i) (.inl (Y 0, 20, .inl (va_cpy q5 q5 (kp + 1) kp (n - kp - 1)))) j = C j := fun j hj => by rw [va_up_ne _ _ (by omega)]; exact hO j hj
    refine lv_iinc (v := (nI i) + 1) (lv' := [(2, .int ((nI i) + 1)), (0, .ref (ad st)), (1, .int (nI kp))]) F.1 F.2.1 dX5_remove_43 hl (k := 0) rfl rfl (by decide) rfl (fun ls hl => ?_)
    refine lv_goto (tgt := 11) F.1 F.2.1 dX5_remove_46 (by decide) ?_
    exact ih _ (by omega) _ _ _ _ ⟨i + 1, rfl, by omega, (by rw [nI_succ]; exact lv_sub hl [0, 1, 2] rfl), hG2, hO2⟩ hP hS
def hv4 (f : Nat → Int32) (c : Nat) : Int32 := if c = 0 then f 6 else if c = 1 then f 11 else if c = 2 then f 10 else f 12
theorem lists_col {f : Nat → Int32} {c k : Nat} (hc : c < 4) (hk : k < 10) : T_lists f (21 + 4 * k + c) = if k = 0 then hv4 f c else f (21 + 4 * (k - 1) + c) := by
  unfold T_lists hv4
  rw [if_neg (by omega)]
  by_cases a : k = 0
  · rw [if_pos a]
    by_cases b0 : c = 0
    · rw [if_pos (by omega), if_pos b0]
    · rw [if_neg (by omega), if_neg b0]
      by_cases b1 : c = 1
      · rw [if_pos (by omega), if_pos b1]
      · rw [if_neg (by omega), if_neg b1]
        by_cases b2 : c = 2
        · rw [if_pos (by omega), if_pos b2]
        · rw [if_neg (by omega), if_neg b2, if_pos (by omega)]
  · rw [if_neg a, if_neg (by omega), if_neg (by omega), if_neg (by omega), if_neg (by omega), if_pos (by omega)]
    exact congrArg f (by omega)
theorem lists_len {f : Nat → Int32} (h0 : 0 ≤ (f 20).toInt) (h1 : (f 20).toInt ≤ 10) : (if f 20 + 1 < 10 then f 20 + 1 else 10) = T_lists f 20 := by
  have e1 : (1 : Int32).toInt = 1 := rfl
  have e10 : (10 : Int32).toInt = 10 := rfl
  have e0 : (0 : Int32).toInt = 0 := rfl
  have p : (f 20 + 1).toInt = (f 20).toInt + 1 := i_add (by rw [e1]; omega) (by rw [e1]; omega)
  show _ = f 20 + (if f 20 < 10 then 1 else 0)
  by_cases a : f 20 < 10
  · rw [if_pos a]
    have a' := Int32.lt_iff_toInt_lt.mp a
    rw [e10] at a'
    by_cases b : f 20 + 1 < 10
    · rw [if_pos b]
    · rw [if_neg b]
      rw [Int32.lt_iff_toInt_lt, p, e10] at b
      apply Int32.toInt_inj.mp
      rw [p, e10]
      omega
  · rw [if_neg a]
    rw [Int32.lt_iff_toInt_lt, e10] at a
    rw [if_neg (by rw [Int32.lt_iff_toInt_lt, p, e10]; omega)]
    apply Int32.toInt_inj.mp
    rw [i_add (by rw [e0]; omega) (by rw [e0]; omega), e10, e0]
    omega
set_option maxRecDepth 20000 in
set_option maxHeartbeats 4000000 in
/-- a run is listed -/
theorem c_X3_add (l : Launch) (D : va_G) (Y : Nat → ClassId) (ad : Nat → Nat) (N : Nat) (hI : wI ad N) (C : Nat → va_E) (st : Nat) (hh : st + 5 < N) (f : Nat → Int32) (hs : isLog Y ad C st f) (h : Nat) (hh2 : h < N) (hd : h < st ∨ st + 6 ≤ h) (g : Int32) (hH : C h = hpR f g) (h20 : 0 ≤ (f 20).toInt) (h20b : (f 20).toInt ≤ 10) : Met l yX3_add (wm yX3_add cX3_add 3 none) { frames := 1, cells := 0, slots := 0, locals := 24 } (wPc D Y ad N [.ref (ad st), .ref (ad h)] C) (wQv D ad N (fun C' => isLog Y ad C' st (T_lists f) ∧ ∀ j, j < st ∨ st + 6 ≤ j → C' j = C j)) 0 0 (wA ad N) := by
  obtain ⟨qs, hqs, hqs1⟩ := hs.2.1
  refine wMet RX3 rfl (by decide +kernel) (Nat.le_of_ble_eq_true rfl) (lv := [(0, .ref (ad st)), (1, .ref (ad h))]) rfl ?_
  intro p e s m below meth c ls F hr hlocks hP hl
  have hS : va_S (wA ad N) s.heap s.heap [] := va_S.rf
  refine lv_iconst (v := 0) F.1 F.2.1 dX3_add_0 (by decide) ?_
  refine lv_istore_n (lv' := [(2, .int (0)), (0, .ref (ad st)), (1, .ref (ad h))]) F.1 F.2.1 dX3_add_1 rfl hl (by decide) rfl (fun ls hl => ?_)
  refine w_loop (Inv := fun j ls C' => ∃ i : Nat, j = 4 - i ∧ i ≤ 4 ∧ lv_has ls 3 [(2, .int (nI i)), (0, .ref (ad st)), (1, .ref (ad h))] ∧ isGrid Y C' (st + 2) 4 10 (fun c k => if c < i then (if 1 ≤ k then f (21 + 4 * (k - 1) + c) else f (21 + 4 * k + c)) else f (21 + 4 * k + c)) ∧ (∀ j, j < st + 2 ∨ st + 6 ≤ j → C' j = C j)) ?_ 4 ⟨0, rfl, by decide, lv_sub hl [0, 1, 2] rfl, isGrid_congr hs.2.2 (fun c k _ _ => by rw [if_neg (Nat.not_lt_zero c)]), fun _ _ => rfl⟩ hP hS
  intro j ih H locs ls C1 hInv hP hS
  obtain ⟨i, hi, hi5, hl, hG, hO⟩ := hInv
  have g1 : C1 st = .inr (3, [.ref (ad (st + 1)), .int (f 20)]) := (hO _ (by omega)).trans hs.1
  have g3 : C1 (st + 1) = .inl (Y 3, 4, .inr (.inr (.inr (.inr qs)))) := (hO _ (by omega)).trans hqs
  have gh : C1 h = hpR f g := (hO _ (by omega)).trans hH
  refine lv_iload_n F.1 F.2.1 dX3_add_2 rfl (lv_at hl 0 rfl) ?_
  refine lv_iconst (v := 4) F.1 F.2.1 dX3_add_3 (by decide) ?_
  refine lv_icmp_ge (tgt := 32) F.1 F.2.1 dX3_add_4 (by decide) (fun c1 => ?_) (fun c1 => ?_)
  · have hin : ¬ i < 4 := fun q => nI_ge (b := 4) q (by decide) c1
    have hG : isGrid Y C1 (st + 2) 4 10 (fun c k => (if 1 ≤ k then f (21 + 4 * (k - 1) + c) else f (21 + 4 * k + c))) := isGrid_congr hG (fun c k hc _ => by rw [if_pos (by omega)])
    obtain ⟨p0, a0, b0⟩ := hG 0 (by decide)
    refine lv_aload_n F.1 F.2.1 dX3_add_32 rfl (lv_at hl 1 rfl) ?_
    refine gf_X3_11 F hP (by omega) g1 (v := .ref (ad (st + 1))) rfl dX3_add_33 ?_
    refine lv_iconst (v := 0) F.1 F.2.1 dX3_add_36 (by decide) ?_
    refine w_gald F hP (by omega) g3 (k := 0) rfl (by decide) (Nat.le_of_ble_eq_true rfl) (v := ad (st + 2 + 0)) (hqs1 0 (by decide)) dX3_add_37 ?_
    refine lv_iconst (v := 0) F.1 F.2.1 dX3_add_38 (by decide) ?_
    refine lv_aload_n F.1 F.2.1 dX3_add_39 rfl (lv_at hl 2 rfl) ?_
    refine gf_X3_28 F hP hh2 gh (v := .int (f 6)) rfl dX3_add_40 ?_
    obtain ⟨D1, eD1⟩ : ∃ z, z = va_up C1 (st + 2 + 0) (.inl (Y 0, 10, .inl (upd p0 0 (f 6)))) := ⟨_, rfl⟩
    refine w_iast F hI hP hS (by omega) a0 (k := 0) rfl (by decide) (by decide) (C1 := D1) (fun j => by rw [eD1]) dX3_add_43 (fun H locs hP hS => ?_)
    have hG1 : isGrid Y D1 (st + 2) 4 10 (fun c k => if k = 0 ∧ c < 1 then hv4 f c else if 1 ≤ k then f (21 + 4 * (k - 1) + c) else f (21 + 4 * k + c)) := by
      rw [eD1]
      refine isGrid_up hG (fun k hkk => ?_) (fun c k hc hne hkk => ?_)
      · by_cases a : k = 0
        · rw [if_pos ⟨a, by decide⟩, a, upd_s]; rfl
        · rw [if_neg (show ¬ (k = 0 ∧ 0 < 1) from fun z => a z.1), upd_n a]; exact b0 k hkk
      · rw [if_neg (show ¬ (k = 0 ∧ c < 1) by omega)]
    have g1_1 : D1 st = .inr (3, [.ref (ad (st + 1)), .int (f 20)]) := by rw [eD1, va_up_ne _ _ (by omega)]; exact g1
    have g3_1 : D1 (st + 1) = .inl (Y 3, 4, .inr (.inr (.inr (.inr qs)))) := by rw [eD1, va_up_ne _ _ (by omega)]; exact g3
    have gh_1 : D1 h = hpR f g := by rw [eD1, va_up_ne _ _ (by omega)]; exact gh
    have hO_1 : ∀ j, j < st + 2 ∨ st + 6 ≤ j → D1 j = C j := fun j hj => by rw [eD1, va_up_ne _ _ (by omega)]; exact hO j hj
    obtain ⟨p1, a1, b1⟩ := hG1 1 (by decide)
    refine lv_aload_n F.1 F.2.1 dX3_add_44 rfl (lv_at hl 1 rfl) ?_
    refine gf_X3_11 F hP (by omega) g1_1 (v := .ref (ad (st + 1))) rfl dX3_add_45 ?_
    refine lv_iconst (v := 1) F.1 F.2.1 dX3_add_48 (by decide) ?_
    refine w_gald F hP (by omega) g3_1 (k := 1) rfl (by decide) (Nat.le_of_ble_eq_true rfl) (v := ad (st + 2 + 1)) (hqs1 1 (by decide)) dX3_add_49 ?_
    refine lv_iconst (v := 0) F.1 F.2.1 dX3_add_50 (by decide) ?_
    refine lv_aload_n F.1 F.2.1 dX3_add_51 rfl (lv_at hl 2 rfl) ?_
    refine gf_X3_33 F hP hh2 gh_1 (v := .int (f 11)) rfl dX3_add_52 ?_
    obtain ⟨D2, eD2⟩ : ∃ z, z = va_up D1 (st + 2 + 1) (.inl (Y 0, 10, .inl (upd p1 0 (f 11)))) := ⟨_, rfl⟩
    refine w_iast F hI hP hS (by omega) a1 (k := 0) rfl (by decide) (by decide) (C1 := D2) (fun j => by rw [eD2]) dX3_add_55 (fun H locs hP hS => ?_)
    have hG2 : isGrid Y D2 (st + 2) 4 10 (fun c k => if k = 0 ∧ c < 2 then hv4 f c else if 1 ≤ k then f (21 + 4 * (k - 1) + c) else f (21 + 4 * k + c)) := by
      rw [eD2]
      refine isGrid_up hG1 (fun k hkk => ?_) (fun c k hc hne hkk => ?_)
      · by_cases a : k = 0
        · rw [if_pos ⟨a, by decide⟩, a, upd_s]; rfl
        · rw [if_neg (show ¬ (k = 0 ∧ 1 < 2) from fun z => a z.1), upd_n a]; exact (b1 k hkk).trans (if_neg (fun z => a z.1))
      · show _ = if k = 0 ∧ c < 1 then hv4 f c else if 1 ≤ k then f (21 + 4 * (k - 1) + c) else f (21 + 4 * k + c)
        by_cases a : k = 0 ∧ c < 1
        · rw [if_pos a, if_pos (show k = 0 ∧ c < 2 by omega)]
        · rw [if_neg a, if_neg (show ¬ (k = 0 ∧ c < 2) by omega)]
    have g1_2 : D2 st = .inr (3, [.ref (ad (st + 1)), .int (f 20)]) := by rw [eD2, va_up_ne _ _ (by omega)]; exact g1_1
    have g3_2 : D2 (st + 1) = .inl (Y 3, 4, .inr (.inr (.inr (.inr qs)))) := by rw [eD2, va_up_ne _ _ (by omega)]; exact g3_1
    have gh_2 : D2 h = hpR f g := by rw [eD2, va_up_ne _ _ (by omega)]; exact gh_1
    have hO_2 : ∀ j, j < st + 2 ∨ st + 6 ≤ j → D2 j = C j := fun j hj => by rw [eD2, va_up_ne _ _ (by omega)]; exact hO_1 j hj
    obtain ⟨p2, a2, b2⟩ := hG2 2 (by decide)
    refine lv_aload_n F.1 F.2.1 dX3_add_56 rfl (lv_at hl 1 rfl) ?_
    refine gf_X3_11 F hP (by omega) g1_2 (v := .ref (ad (st + 1))) rfl dX3_add_57 ?_
    refine lv_iconst (v := 2) F.1 F.2.1 dX3_add_60 (by decide) ?_
    refine w_gald F hP (by omega) g3_2 (k := 2) rfl (by decide) (Nat.le_of_ble_eq_true rfl) (v := ad (st + 2 + 2)) (hqs1 2 (by decide)) dX3_add_61 ?_
    refine lv_iconst (v := 0) F.1 F.2.1 dX3_add_62 (by decide) ?_
    refine lv_aload_n F.1 F.2.1 dX3_add_63 rfl (lv_at hl 2 rfl) ?_
    refine gf_X3_36 F hP hh2 gh_2 (v := .int (f 10)) rfl dX3_add_64 ?_
    obtain ⟨D3, eD3⟩ : ∃ z, z = va_up D2 (st + 2 + 2) (.inl (Y 0, 10, .inl (upd p2 0 (f 10)))) := ⟨_, rfl⟩
    refine w_iast F hI hP hS (by omega) a2 (k := 0) rfl (by decide) (by decide) (C1 := D3) (fun j => by rw [eD3]) dX3_add_67 (fun H locs hP hS => ?_)
    have hG3 : isGrid Y D3 (st + 2) 4 10 (fun c k => if k = 0 ∧ c < 3 then hv4 f c else if 1 ≤ k then f (21 + 4 * (k - 1) + c) else f (21 + 4 * k + c)) := by
      rw [eD3]
      refine isGrid_up hG2 (fun k hkk => ?_) (fun c k hc hne hkk => ?_)
      · by_cases a : k = 0
        · rw [if_pos ⟨a, by decide⟩, a, upd_s]; rfl
        · rw [if_neg (show ¬ (k = 0 ∧ 2 < 3) from fun z => a z.1), upd_n a]; exact (b2 k hkk).trans (if_neg (fun z => a z.1))
      · show _ = if k = 0 ∧ c < 2 then hv4 f c else if 1 ≤ k then f (21 + 4 * (k - 1) + c) else f (21 + 4 * k + c)
        by_cases a : k = 0 ∧ c < 2
        · rw [if_pos a, if_pos (show k = 0 ∧ c < 3 by omega)]
        · rw [if_neg a, if_neg (show ¬ (k = 0 ∧ c < 3) by omega)]
    have g1_3 : D3 st = .inr (3, [.ref (ad (st + 1)), .int (f 20)]) := by rw [eD3, va_up_ne _ _ (by omega)]; exact g1_2
    have g3_3 : D3 (st + 1) = .inl (Y 3, 4, .inr (.inr (.inr (.inr qs)))) := by rw [eD3, va_up_ne _ _ (by omega)]; exact g3_2
    have gh_3 : D3 h = hpR f g := by rw [eD3, va_up_ne _ _ (by omega)]; exact gh_2
    have hO_3 : ∀ j, j < st + 2 ∨ st + 6 ≤ j → D3 j = C j := fun j hj => by rw [eD3, va_up_ne _ _ (by omega)]; exact hO_2 j hj
    obtain ⟨p3, a3, b3⟩ := hG3 3 (by decide)
    refine lv_aload_n F.1 F.2.1 dX3_add_68 rfl (lv_at hl 1 rfl) ?_
    refine gf_X3_11 F hP (by omega) g1_3 (v := .ref (ad (st + 1))) rfl dX3_add_69 ?_
    refine lv_iconst (v := 3) F.1 F.2.1 dX3_add_72 (by decide) ?_
    refine w_gald F hP (by omega) g3_3 (k := 3) rfl (by decide) (Nat.le_of_ble_eq_true rfl) (v := ad (st + 2 + 3)) (hqs1 3 (by decide)) dX3_add_73 ?_
    refine lv_iconst (v := 0) F.1 F.2.1 dX3_add_74 (by decide) ?_
    refine lv_aload_n F.1 F.2.1 dX3_add_75 rfl (lv_at hl 2 rfl) ?_
    refine gf_X3_39 F hP hh2 gh_3 (v := .int (f 12)) rfl dX3_add_76 ?_
    obtain ⟨D4, eD4⟩ : ∃ z, z = va_up D3 (st + 2 + 3) (.inl (Y 0, 10, .inl (upd p3 0 (f 12)))) := ⟨_, rfl⟩
    refine w_iast F hI hP hS (by omega) a3 (k := 0) rfl (by decide) (by decide) (C1 := D4) (fun j => by rw [eD4]) dX3_add_79 (fun H locs hP hS => ?_)
    have hG4 : isGrid Y D4 (st + 2) 4 10 (fun c k => if k = 0 ∧ c < 4 then hv4 f c else if 1 ≤ k then f (21 + 4 * (k - 1) + c) else f (21 + 4 * k + c)) := by
      rw [eD4]
      refine isGrid_up hG3 (fun k hkk => ?_) (fun c k hc hne hkk => ?_)
      · by_cases a : k = 0
        · rw [if_pos ⟨a, by decide⟩, a, upd_s]; rfl
        · rw [if_neg (show ¬ (k = 0 ∧ 3 < 4) from fun z => a z.1), upd_n a]; exact (b3 k hkk).trans (if_neg (fun z => a z.1))
      · show _ = if k = 0 ∧ c < 3 then hv4 f c else if 1 ≤ k then f (21 + 4 * (k - 1) + c) else f (21 + 4 * k + c)
        by_cases a : k = 0 ∧ c < 3
        · rw [if_pos a, if_pos (show k = 0 ∧ c < 4 by omega)]
        · rw [if_neg a, if_neg (show ¬ (k = 0 ∧ c < 4) by omega)]
    have g1_4 : D4 st = .inr (3, [.ref (ad (st + 1)), .int (f 20)]) := by rw [eD4, va_up_ne _ _ (by omega)]; exact g1_3
    have g3_4 : D4 (st + 1) = .inl (Y 3, 4, .inr (.inr (.inr (.inr qs)))) := by rw [eD4, va_up_ne _ _ (by omega)]; exact g3_3
    have gh_4 : D4 h = hpR f g := by rw [eD4, va_up_ne _ _ (by omega)]; exact gh_3
    have hO_4 : ∀ j, j < st + 2 ∨ st + 6 ≤ j → D4 j = C j := fun j hj => by rw [eD4, va_up_ne _ _ (by omega)]; exact hO_3 j hj
    refine lv_aload_n F.1 F.2.1 dX3_add_80 rfl (lv_at hl 1 rfl) ?_
    refine lv_bipush (v := 10) F.1 F.2.1 dX3_add_81 (by decide) ?_
    refine lv_aload_n F.1 F.2.1 dX3_add_83 rfl (lv_at hl 1 rfl) ?_
    refine gf_X3_14 F hP (by omega) g1_4 (v := .int (f 20)) rfl dX3_add_84 ?_
    refine lv_iconst (v := 1) F.1 F.2.1 dX3_add_87 (by decide) ?_
    refine lv_iadd F.1 F.2.1 dX3_add_88 ?_
    refine w_min F hl.1 mw_349 (by decide) (Nat.le_of_ble_eq_true rfl) ⟨Nat.zero_le _, Nat.zero_le _⟩ dX3_add_89 ?_
    refine lv_topi (fun v2 ev2 => ?_)
    have ev2 : v2 = T_lists f 20 := ev2.trans (lists_len h20 h20b)
    subst ev2
    refine pf_X3_14 F hI hP hS (by omega) g1_4 (Nat.le_of_ble_eq_true rfl) up_rfl dX3_add_92 (fun H locs hP hS => ?_)
    exact w_vret F hr hlocks hP hS dX3_add_95 ⟨⟨va_up_self _ _ _, ⟨qs, by rw [va_up_ne _ _ (by omega)]; exact g3_4, hqs1⟩, isGrid_off (isGrid_congr hG4 (fun c k hc hkk => by rw [lists_col hc hkk]; by_cases a : k = 0 <;> simp only [a, true_and, false_and, if_false, if_true, hc] <;> rw [if_pos (by omega)])) (by omega)⟩, fun j hj => by rw [va_up_ne _ _ (by omega)]; exact hO_4 j (by omega)⟩
  · have hin : i < 4 := by have q := i_lt c1; exact Nat.not_le.mp (fun z => i_nlt (nI_le z (by omega)) q)
    obtain ⟨q5, h5, h6⟩ := hG i hin
    have h6 : ∀ k, k < 10 → q5 k = f (21 + 4 * k + i) := fun k hk => (h6 k hk).trans (if_neg (Nat.lt_irrefl i))
    refine lv_aload_n F.1 F.2.1 dX3_add_7 rfl (lv_at hl 1 rfl) ?_
    refine gf_X3_11 F hP (by omega) g1 (v := .ref (ad (st + 1))) rfl dX3_add_8 ?_
    refine lv_iload_n F.1 F.2.1 dX3_add_11 rfl (lv_at hl 0 rfl) ?_
    refine w_gald F hP (by omega) g3 (k := i) rfl hin (Nat.le_of_ble_eq_true rfl) (v := ad (st + 2 + i)) (hqs1 i hin) dX3_add_12 ?_
    refine lv_iconst (v := 0) F.1 F.2.1 dX3_add_13 (by decide) ?_
    refine lv_aload_n F.1 F.2.1 dX3_add_14 rfl (lv_at hl 1 rfl) ?_
    refine gf_X3_11 F hP (by omega) g1 (v := .ref (ad (st + 1))) rfl dX3_add_15 ?_
    refine lv_iload_n F.1 F.2.1 dX3_add_18 rfl (lv_at hl 0 rfl) ?_
    refine w_gald F hP (by omega) g3 (k := i) rfl hin (Nat.le_of_ble_eq_true rfl) (v := ad (st + 2 + i)) (hqs1 i hin) dX3_add_19 ?_
    refine lv_iconst (v := 1) F.1 F.2.1 dX3_add_20 (by decide) ?_
    refine lv_bipush (v := 9) F.1 F.2.1 dX3_add_21 (by decide) ?_
    refine w_acpy F hI hl.1 hP hS mw_164 (h0 := st + 2 + i) (h1 := st + 2 + i) (by omega) (by omega) h5 h5 (a := 0) (b := 1) (k := 9) rfl rfl rfl (by decide) (by decide) (by decide) (by decide) (by decide) (Nat.le_of_ble_eq_true rfl) up_rfl dX3_add_23 (fun H locs hP hS => ?_)
    have hG2 : isGrid Y (va_up C1 (st + 2 + i) (.inl (Y 0, 10, .inl (va_cpy q5 q5 0 1 9)))) (st + 2) 4 10 (fun c k => if c < i + 1 then (if 1 ≤ k then f (21 + 4 * (k - 1) + c) else f (21 + 4 * k + c)) else f (21 + 4 * k + c)) := isGrid_up hG (fun k hkk => by
        rw [if_pos (Nat.lt_succ_self i)]
        by_cases b : 1 ≤ k
        · rw [if_pos b, pk_cpy_in (by omega) (by omega), h6 _ (by omega), show 0 + (k - 1) = k - 1 by omega]
        · rw [if_neg b, pk_cpy_out (by omega), h6 _ hkk]) (fun c k hc hne hkk => by by_cases q : c < i <;> simp only [q, if_true, if_false] <;> first | rw [if_pos (by omega)] | rw [if_neg (by omega)])
    have hO2 : ∀ j, j < st + 2 ∨ st + 6 ≤ j → va_up C1 (st + 2 + i) (.inl (Y 0, 10, .inl (va_cpy q5 q5 0 1 9))) j = C j := fun j hj => by rw [va_up_ne _ _ (by omega)]; exact hO j hj
    refine lv_iinc (v := (nI i) + 1) (lv' := [(2, .int ((nI i) + 1)), (0, .ref (ad st)), (1, .ref (ad h))]) F.1 F.2.1 dX3_add_26 hl (k := 0) rfl rfl (by decide) rfl (fun ls hl => ?_)
    refine lv_goto (tgt := 2) F.1 F.2.1 dX3_add_29 (by decide) ?_
    exact ih _ (by omega) _ _ _ _ ⟨i + 1, rfl, by omega, (by rw [nI_succ]; exact lv_sub hl [0, 1, 2] rfl), hG2, hO2⟩ hP hS
end
section
/-! HoopStairs$Stair, RunLog, Settings: the rest -/
def T_okp (kd v : Int32) : Prop := 0 ≤ kd ∧ kd ≤ 2 ∧ 1 ≤ v ∧ v ≤ (if kd = 2 then 99 else 9)
def T_oks (x : Int32) : Prop := 1 ≤ x ∧ x ≤ 60
theorem ne_col {q5 f : Nat → Int32} {k we : Nat} (h6 : ∀ k, k < 20 → q5 k = f (61 + 5 * k + (we + 1))) (j : Nat) (hj : j < 20) : upd q5 k (f (62 + 5 * k + we) + 1) j = upd f (62 + 5 * k + we) (f (62 + 5 * k + we) + 1) (61 + 5 * j + (we + 1)) := by
  by_cases a : j = k
  · rw [a, upd_s, show 61 + 5 * k + (we + 1) = 62 + 5 * k + we by omega, upd_s]
  · rw [upd_n a, upd_n (by omega)]
    exact h6 j hj
set_option maxRecDepth 20000 in
set_option maxHeartbeats 4000000 in
/-- may a part be so -/
theorem c_X5_allows (l : Launch) (D : va_G) (Y : Nat → ClassId) (ad : Nat → Nat) (N : Nat) (hI : wI ad N) (C : Nat → va_E) (kd v : Int32) : Met l yX5_allows (wm yX5_allows cX5_allows 2 (some .boolean)) { frames := 0, cells := 0, slots := 0, locals := 0 } (wPc D Y ad N [.int (kd), .int (v)] C) (wQi D ad N (fun r C' => C' = C ∧ r = if 0 ≤ kd ∧ kd ≤ 2 ∧ 1 ≤ v ∧ v ≤ (if kd = 2 then 99 else 9) then 1 else 0)) 0 0 (wA ad N) := by
  refine wMet RX5 rfl (by decide +kernel) (Nat.le_of_ble_eq_true rfl) (lv := [(0, .int (kd)), (1, .int (v))]) rfl ?_
  intro p e s m below meth c ls F hr hlocks hP hl
  have hS : va_S (wA ad N) s.heap s.heap [] := va_S.rf
  refine lv_iload_n F.1 F.2.1 dX5_allows_0 rfl (lv_at hl 0 rfl) ?_
  refine lv_if_lt (tgt := 14) F.1 F.2.1 dX5_allows_1 (by decide) (fun c1 => ?_) (fun c1 => ?_)
  · refine lv_iconst (v := 0) F.1 F.2.1 dX5_allows_14 (by decide) ?_
    exact w_zret F hr hlocks hP hS (Or.inl rfl) dX5_allows_15 ⟨rfl, by simp [c1, i_nle c1]⟩
  · refine lv_iload_n F.1 F.2.1 dX5_allows_4 rfl (lv_at hl 0 rfl) ?_
    refine lv_iconst (v := 2) F.1 F.2.1 dX5_allows_5 (by decide) ?_
    refine lv_icmp_gt (tgt := 14) F.1 F.2.1 dX5_allows_6 (by decide) (fun c2 => ?_) (fun c2 => ?_)
    · refine lv_iconst (v := 0) F.1 F.2.1 dX5_allows_14 (by decide) ?_
      exact w_zret F hr hlocks hP hS (Or.inl rfl) dX5_allows_15 ⟨rfl, by simp [c1, i_le c1, c2, i_nle c2]⟩
    · refine lv_iload_n F.1 F.2.1 dX5_allows_9 rfl (lv_at hl 1 rfl) ?_
      refine lv_iconst (v := 1) F.1 F.2.1 dX5_allows_10 (by decide) ?_
      refine lv_icmp_ge (tgt := 16) F.1 F.2.1 dX5_allows_11 (by decide) (fun c3 => ?_) (fun c3 => ?_)
      · refine lv_iload_n F.1 F.2.1 dX5_allows_16 rfl (lv_at hl 1 rfl) ?_
        refine lv_iload_n F.1 F.2.1 dX5_allows_17 rfl (lv_at hl 0 rfl) ?_
        refine lv_iconst (v := 2) F.1 F.2.1 dX5_allows_18 (by decide) ?_
        refine lv_icmp_ne (tgt := 27) F.1 F.2.1 dX5_allows_19 (by decide) (fun c4 => ?_) (fun c4 => ?_)
        · refine lv_bipush (v := 9) F.1 F.2.1 dX5_allows_27 (by decide) ?_
          refine lv_icmp_gt (tgt := 36) F.1 F.2.1 dX5_allows_29 (by decide) (fun c5 => ?_) (fun c5 => ?_)
          · refine lv_iconst (v := 0) F.1 F.2.1 dX5_allows_36 (by decide) ?_
            exact w_zret F hr hlocks hP hS (Or.inl rfl) dX5_allows_37 ⟨rfl, by simp [c1, i_le c1, c2, i_le c2, c3, i_nlt c3, c4, c5, i_nle c5]⟩
          · refine lv_iconst (v := 1) F.1 F.2.1 dX5_allows_32 (by decide) ?_
            refine lv_goto (tgt := 37) F.1 F.2.1 dX5_allows_33 (by decide) ?_
            exact w_zret F hr hlocks hP hS (Or.inr rfl) dX5_allows_37 ⟨rfl, by simp [c1, i_le c1, c2, i_le c2, c3, i_nlt c3, c4, c5, i_le c5]⟩
        · refine lv_bipush (v := 99) F.1 F.2.1 dX5_allows_22 (by decide) ?_
          refine lv_goto (tgt := 29) F.1 F.2.1 dX5_allows_24 (by decide) ?_
          refine lv_icmp_gt (tgt := 36) F.1 F.2.1 dX5_allows_29 (by decide) (fun c6 => ?_) (fun c6 => ?_)
          · refine lv_iconst (v := 0) F.1 F.2.1 dX5_allows_36 (by decide) ?_
            exact w_zret F hr hlocks hP hS (Or.inl rfl) dX5_allows_37 ⟨rfl, by simp [c1, i_le c1, c2, i_le c2, c3, i_nlt c3, c4, c6, i_nle c6]⟩
          · refine lv_iconst (v := 1) F.1 F.2.1 dX5_allows_32 (by decide) ?_
            refine lv_goto (tgt := 37) F.1 F.2.1 dX5_allows_33 (by decide) ?_
            exact w_zret F hr hlocks hP hS (Or.inr rfl) dX5_allows_37 ⟨rfl, by simp [c1, i_le c1, c2, i_le c2, c3, i_nlt c3, c4, c6, i_le c6]⟩
      · refine lv_iconst (v := 0) F.1 F.2.1 dX5_allows_14 (by decide) ?_
        exact w_zret F hr hlocks hP hS (Or.inl rfl) dX5_allows_15 ⟨rfl, by simp [c1, i_le c1, c2, i_le c2, c3, i_lt c3]⟩
set_option maxRecDepth 20000 in
set_option maxHeartbeats 4000000 in
/-- may a hoop be so -/
theorem c_X1_allows (l : Launch) (D : va_G) (Y : Nat → ClassId) (ad : Nat → Nat) (N : Nat) (hI : wI ad N) (C : Nat → va_E) (x : Int32) : Met l yX1_allows (wm yX1_allows cX1_allows 1 (some .boolean)) { frames := 0, cells := 0, slots := 0, locals := 0 } (wPc D Y ad N [.int (x)] C) (wQi D ad N (fun r C' => C' = C ∧ r = if 1 ≤ x ∧ x ≤ 60 then 1 else 0)) 0 0 (wA ad N) := by
  refine wMet RX1 rfl (by decide +kernel) (Nat.le_of_ble_eq_true rfl) (lv := [(0, .int (x))]) rfl ?_
  intro p e s m below meth c ls F hr hlocks hP hl
  have hS : va_S (wA ad N) s.heap s.heap [] := va_S.rf
  refine lv_iload_n F.1 F.2.1 dX1_allows_0 rfl (lv_at hl 0 rfl) ?_
  refine lv_iconst (v := 1) F.1 F.2.1 dX1_allows_1 (by decide) ?_
  refine lv_icmp_lt (tgt := 15) F.1 F.2.1 dX1_allows_2 (by decide) (fun c1 => ?_) (fun c1 => ?_)
  · refine lv_iconst (v := 0) F.1 F.2.1 dX1_allows_15 (by decide) ?_
    exact w_zret F hr hlocks hP hS (Or.inl rfl) dX1_allows_16 ⟨rfl, by simp [c1, i_nle c1]⟩
  · refine lv_iload_n F.1 F.2.1 dX1_allows_5 rfl (lv_at hl 0 rfl) ?_
    refine lv_bipush (v := 60) F.1 F.2.1 dX1_allows_6 (by decide) ?_
    refine lv_icmp_gt (tgt := 15) F.1 F.2.1 dX1_allows_8 (by decide) (fun c2 => ?_) (fun c2 => ?_)
    · refine lv_iconst (v := 0) F.1 F.2.1 dX1_allows_15 (by decide) ?_
      exact w_zret F hr hlocks hP hS (Or.inl rfl) dX1_allows_16 ⟨rfl, by simp [c1, i_le c1, c2, i_nle c2]⟩
    · refine lv_iconst (v := 1) F.1 F.2.1 dX1_allows_11 (by decide) ?_
      refine lv_goto (tgt := 16) F.1 F.2.1 dX1_allows_12 (by decide) ?_
      exact w_zret F hr hlocks hP hS (Or.inr rfl) dX1_allows_16 ⟨rfl, by simp [c1, i_le c1, c2, i_le c2]⟩
set_option maxRecDepth 20000 in
set_option maxHeartbeats 4000000 in
/-- is there a run -/
theorem c_X3_has (l : Launch) (D : va_G) (Y : Nat → ClassId) (ad : Nat → Nat) (N : Nat) (hI : wI ad N) (C : Nat → va_E) (st : Nat) (hh : st < N) (gr : Nat) (n : Int32) (hC : C st = .inr (3, [.ref gr, .int n])) (x : Int32) : Met l yX3_has (wm yX3_has cX3_has 2 (some .boolean)) { frames := 0, cells := 0, slots := 0, locals := 0 } (wPc D Y ad N [.ref (ad st), .int (x)] C) (wQi D ad N (fun r C' => C' = C ∧ r = if 0 ≤ x ∧ x < n ∧ x < 10 then 1 else 0)) 0 0 (wA ad N) := by
  refine wMet RX3 rfl (by decide +kernel) (Nat.le_of_ble_eq_true rfl) (lv := [(0, .ref (ad st)), (1, .int (x))]) rfl ?_
  intro p e s m below meth c ls F hr hlocks hP hl
  have hS : va_S (wA ad N) s.heap s.heap [] := va_S.rf
  refine lv_iload_n F.1 F.2.1 dX3_has_0 rfl (lv_at hl 1 rfl) ?_
  refine lv_if_lt (tgt := 22) F.1 F.2.1 dX3_has_1 (by decide) (fun c1 => ?_) (fun c1 => ?_)
  · refine lv_iconst (v := 0) F.1 F.2.1 dX3_has_22 (by decide) ?_
    exact w_zret F hr hlocks hP hS (Or.inl rfl) dX3_has_23 ⟨rfl, by simp [c1, i_nle c1]⟩
  · refine lv_iload_n F.1 F.2.1 dX3_has_4 rfl (lv_at hl 1 rfl) ?_
    refine lv_aload_n F.1 F.2.1 dX3_has_5 rfl (lv_at hl 0 rfl) ?_
    refine gf_X3_14 F hP hh hC (v := .int (n)) rfl dX3_has_6 ?_
    refine lv_icmp_ge (tgt := 22) F.1 F.2.1 dX3_has_9 (by decide) (fun c2 => ?_) (fun c2 => ?_)
    · refine lv_iconst (v := 0) F.1 F.2.1 dX3_has_22 (by decide) ?_
      exact w_zret F hr hlocks hP hS (Or.inl rfl) dX3_has_23 ⟨rfl, by simp [c1, i_le c1, c2, i_nlt c2]⟩
    · refine lv_iload_n F.1 F.2.1 dX3_has_12 rfl (lv_at hl 1 rfl) ?_
      refine lv_bipush (v := 10) F.1 F.2.1 dX3_has_13 (by decide) ?_
      refine lv_icmp_ge (tgt := 22) F.1 F.2.1 dX3_has_15 (by decide) (fun c3 => ?_) (fun c3 => ?_)
      · refine lv_iconst (v := 0) F.1 F.2.1 dX3_has_22 (by decide) ?_
        exact w_zret F hr hlocks hP hS (Or.inl rfl) dX3_has_23 ⟨rfl, by simp [c1, i_le c1, c2, i_lt c2, c3, i_nlt c3]⟩
      · refine lv_iconst (v := 1) F.1 F.2.1 dX3_has_18 (by decide) ?_
        refine lv_goto (tgt := 23) F.1 F.2.1 dX3_has_19 (by decide) ?_
        exact w_zret F hr hlocks hP hS (Or.inr rfl) dX3_has_23 ⟨rfl, by simp [c1, i_le c1, c2, i_lt c2, c3, i_lt c3]⟩
set_option maxRecDepth 20000 in
set_option maxHeartbeats 4000000 in
/-- something of a run -/
theorem c_X3_entry (l : Launch) (D : va_G) (Y : Nat → ClassId) (ad : Nat → Nat) (N : Nat) (hI : wI ad N) (C : Nat → va_E) (st : Nat) (hh : st + 5 < N) (f : Nat → Int32) (hs : isLog Y ad C st f) (k j : Nat) (hk : k < 10) (hkn : nI k < f 20) (hj : j < 4) : Met l yX3_entry (wm yX3_entry cX3_entry 3 (some .int)) { frames := 1, cells := 0, slots := 0, locals := 21 } (wPc D Y ad N [.ref (ad st), .int (nI k), .int (nI j)] C) (wQi D ad N (fun r C' => C' = C ∧ r = f (21 + 4 * k + j))) 0 0 (wA ad N) := by
  obtain ⟨qg, hg, hgq⟩ := hs.2.1
  obtain ⟨q, h1, h1q⟩ := hs.2.2 j hj
  refine wMet RX3 rfl (by decide +kernel) (Nat.le_of_ble_eq_true rfl) (lv := [(0, .ref (ad st)), (1, .int (nI k)), (2, .int (nI j))]) rfl ?_
  intro p e s m below meth c ls F hr hlocks hP hl
  have hS : va_S (wA ad N) s.heap s.heap [] := va_S.rf
  refine lv_aload_n F.1 F.2.1 dX3_entry_0 rfl (lv_at hl 0 rfl) ?_
  refine lv_iload_n F.1 F.2.1 dX3_entry_1 rfl (lv_at hl 1 rfl) ?_
  refine w_calli F hP hS (c_X3_has l D Y ad N hI _ st (by omega) _ _ hs.1 (nI k)) (cwVm 1 F.2.2.2.2.1 (fun _ h => h) mw_469 mw_474 mw_467 mw_468 mw_48 rfl rfl ydX3_has ⟨by decide, by decide⟩) (by omega) hs.1 rfl rfl hl.1 rfl (Nat.le_of_ble_eq_true rfl) dX3_entry_2 ⟨Nat.zero_le _, Nat.zero_le _⟩ (fun r C2 H locs hq hP hS => ?_)
  obtain ⟨hq1, hq2⟩ := hq; rw [hq1] at hP
  rw [(if_pos ⟨nI_pos' (by omega), hkn, nI_lt hk (by decide)⟩)] at hq2; subst hq2
  refine lv_if_eq (tgt := 17) F.1 F.2.1 dX3_entry_5 (by decide) (fun c1 => False.elim (absurd c1 (by decide))) (fun c1 => ?_)
  refine lv_iload_n F.1 F.2.1 dX3_entry_8 rfl (lv_at hl 2 rfl) ?_
  refine lv_if_lt (tgt := 17) F.1 F.2.1 dX3_entry_9 (by decide) (fun c2 => False.elim (nI_pos (by omega) c2)) (fun c2 => ?_)
  refine lv_iload_n F.1 F.2.1 dX3_entry_12 rfl (lv_at hl 2 rfl) ?_
  refine lv_iconst (v := 4) F.1 F.2.1 dX3_entry_13 (by decide) ?_
  refine lv_icmp_lt (tgt := 19) F.1 F.2.1 dX3_entry_14 (by decide) (fun c3 => ?_) (fun c3 => False.elim (c3 (nI_lt hj (by decide))))
  refine lv_aload_n F.1 F.2.1 dX3_entry_19 rfl (lv_at hl 0 rfl) ?_
  refine gf_X3_11 F hP (by omega) hs.1 (v := .ref (ad (st + 1))) rfl dX3_entry_20 ?_
  refine lv_iload_n F.1 F.2.1 dX3_entry_23 rfl (lv_at hl 2 rfl) ?_
  refine w_gald F hP (by omega) hg (k := j) rfl hj (Nat.le_of_ble_eq_true rfl) (v := ad (st + 2 + j)) (hgq j hj) dX3_entry_24 ?_
  refine lv_iload_n F.1 F.2.1 dX3_entry_25 rfl (lv_at hl 1 rfl) ?_
  refine w_iald F hP (by omega) h1 (k := k) rfl hk (Nat.le_of_ble_eq_true rfl) (v := f (21 + 4 * k + j)) (h1q k hk) dX3_entry_26 ?_
  exact w_iret F hr hlocks hP hS dX3_entry_27 ⟨rfl, rfl⟩
set_option maxRecDepth 20000 in
set_option maxHeartbeats 4000000 in
/-- a hoop ended at a part -/
theorem c_X5_noteEnd (l : Launch) (D : va_G) (Y : Nat → ClassId) (ad : Nat → Nat) (N : Nat) (hI : wI ad N) (C : Nat → va_E) (st : Nat) (hh : st + 6 < N) (f : Nat → Int32) (hs : isStair Y ad C st f) (k we : Nat) (hk : k < 20) (hkn : nI k < f 4) (he : 1 ≤ we) (he3 : we ≤ 3) : Met l yX5_noteEnd (wm yX5_noteEnd cX5_noteEnd 3 none) { frames := 1, cells := 0, slots := 0, locals := 21 } (wPc D Y ad N [.ref (ad st), .int (nI k), .int (nI we)] C) (wQv D ad N (fun C' => isStair Y ad C' st (upd f (62 + 5 * k + we) (f (62 + 5 * k + we) + 1)) ∧ ∀ j, j < st ∨ st + 7 ≤ j → C' j = C j)) 0 0 (wA ad N) := by
  obtain ⟨qs, hqs, hqs1⟩ := hs.2.1
  obtain ⟨q5, h5, h6⟩ := hs.2.2 (we + 1) (by omega)
  refine wMet RX5 rfl (by decide +kernel) (Nat.le_of_ble_eq_true rfl) (lv := [(0, .ref (ad st)), (1, .int (nI k)), (2, .int (nI we))]) rfl ?_
  intro p e s m below meth c ls F hr hlocks hP hl
  have hS : va_S (wA ad N) s.heap s.heap [] := va_S.rf
  refine lv_aload_n F.1 F.2.1 dX5_noteEnd_0 rfl (lv_at hl 0 rfl) ?_
  refine lv_iload_n F.1 F.2.1 dX5_noteEnd_1 rfl (lv_at hl 1 rfl) ?_
  refine w_calli F hP hS (c_X5_has l D Y ad N hI _ st (by omega) _ _ hs.1 (nI k)) (cwVm 1 F.2.2.2.2.1 (fun _ h => h) mw_234 mw_243 mw_232 mw_233 mw_42 rfl rfl ydX5_has ⟨by decide, by decide⟩) (by omega) hs.1 rfl rfl hl.1 rfl (Nat.le_of_ble_eq_true rfl) dX5_noteEnd_2 ⟨Nat.zero_le _, Nat.zero_le _⟩ (fun r C2 H locs hq hP hS => ?_)
  obtain ⟨hq1, hq2⟩ := hq; rw [hq1] at hP
  rw [(if_pos ⟨nI_pos' (by omega), hkn, nI_lt hk (by decide)⟩)] at hq2; subst hq2
  refine lv_if_eq (tgt := 34) F.1 F.2.1 dX5_noteEnd_5 (by decide) (fun c1 => False.elim (absurd c1 (by decide))) (fun c1 => ?_)
  refine lv_iload_n F.1 F.2.1 dX5_noteEnd_8 rfl (lv_at hl 2 rfl) ?_
  refine lv_iconst (v := 1) F.1 F.2.1 dX5_noteEnd_9 (by decide) ?_
  refine lv_icmp_lt (tgt := 34) F.1 F.2.1 dX5_noteEnd_10 (by decide) (fun c2 => False.elim (i_nlt (nI_le (a := 1) he (by omega)) c2)) (fun c2 => ?_)
  refine lv_iload_n F.1 F.2.1 dX5_noteEnd_13 rfl (lv_at hl 2 rfl) ?_
  refine lv_iconst (v := 3) F.1 F.2.1 dX5_noteEnd_14 (by decide) ?_
  refine lv_icmp_gt (tgt := 34) F.1 F.2.1 dX5_noteEnd_15 (by decide) (fun c3 => False.elim (i_nlt (nI_le (b := 3) he3 (by decide)) c3)) (fun c3 => ?_)
  refine lv_aload_n F.1 F.2.1 dX5_noteEnd_18 rfl (lv_at hl 0 rfl) ?_
  refine gf_X5_11 F hP (by omega) hs.1 (v := .ref (ad (st + 1))) rfl dX5_noteEnd_19 ?_
  refine lv_iconst (v := 2) F.1 F.2.1 dX5_noteEnd_22 (by decide) ?_
  refine lv_iload_n F.1 F.2.1 dX5_noteEnd_23 rfl (lv_at hl 2 rfl) ?_
  refine lv_iadd F.1 F.2.1 dX5_noteEnd_24 ?_
  refine lv_iconst (v := 1) F.1 F.2.1 dX5_noteEnd_25 (by decide) ?_
  refine lv_isub F.1 F.2.1 dX5_noteEnd_26 ?_
  refine w_gald F hP (by omega) hqs (k := we + 1) (by rw [show (2 : Int32) = nI 2 from rfl, nI_add]; exact (pk_sub (b := 1) (by omega)).trans (congrArg nI (by omega))) (by omega) (Nat.le_of_ble_eq_true rfl) (v := ad (st + 2 + (we + 1))) (hqs1 _ (by omega)) dX5_noteEnd_27 ?_
  refine lv_iload_n F.1 F.2.1 dX5_noteEnd_28 rfl (lv_at hl 1 rfl) ?_
  refine lv_dup2_11 F.1 F.2.1 dX5_noteEnd_29 rfl rfl ?_
  refine w_iald F hP (by omega) h5 (k := k) rfl hk (Nat.le_of_ble_eq_true rfl) (v := f (62 + 5 * k + we)) ((h6 k hk).trans (congrArg f (by omega))) dX5_noteEnd_30 ?_
  refine lv_iconst (v := 1) F.1 F.2.1 dX5_noteEnd_31 (by decide) ?_
  refine lv_iadd F.1 F.2.1 dX5_noteEnd_32 ?_
  refine w_iast F hI hP hS (by omega) h5 (k := k) rfl hk (by decide) (C1 := va_up C (st + 2 + (we + 1)) (.inl (Y 0, 20, .inl (upd q5 k (f (62 + 5 * k + we) + 1))))) (fun j => rfl) dX5_noteEnd_33 (fun H locs hP hS => ?_)
  exact w_vret F hr hlocks hP hS dX5_noteEnd_34 ⟨⟨by rw [va_up_ne _ _ (by omega), upd_n (by omega)]; exact hs.1, ⟨qs, by rw [va_up_ne _ _ (by omega)]; exact hqs, hqs1⟩, isGrid_up hs.2.2 (ne_col h6) (fun c j hc hne hj => upd_n (by omega))⟩, fun j hj => va_up_ne _ _ (by omega)⟩
set_option maxRecDepth 20000 in
set_option maxHeartbeats 4000000 in
/-- a hoop passed -/
theorem c_X5_noteEnd_p (l : Launch) (D : va_G) (Y : Nat → ClassId) (ad : Nat → Nat) (N : Nat) (hI : wI ad N) (C : Nat → va_E) (st : Nat) (hh : st < N) (gr : Nat) (n : Int32) (hC : C st = .inr (5, [.ref gr, .int n])) (x : Int32) : Met l yX5_noteEnd (wm yX5_noteEnd cX5_noteEnd 3 none) { frames := 1, cells := 0, slots := 0, locals := 21 } (wPc D Y ad N [.ref (ad st), .int (x), .int (4)] C) (wQv D ad N (fun C' => C' = C)) 0 0 (wA ad N) := by
  refine wMet RX5 rfl (by decide +kernel) (Nat.le_of_ble_eq_true rfl) (lv := [(0, .ref (ad st)), (1, .int (x)), (2, .int (4))]) rfl ?_
  intro p e s m below meth c ls F hr hlocks hP hl
  have hS : va_S (wA ad N) s.heap s.heap [] := va_S.rf
  refine lv_aload_n F.1 F.2.1 dX5_noteEnd_0 rfl (lv_at hl 0 rfl) ?_
  refine lv_iload_n F.1 F.2.1 dX5_noteEnd_1 rfl (lv_at hl 1 rfl) ?_
  refine w_calli F hP hS (c_X5_has l D Y ad N hI _ st hh _ _ hC x) (cwVm 1 F.2.2.2.2.1 (fun _ h => h) mw_234 mw_243 mw_232 mw_233 mw_42 rfl rfl ydX5_has ⟨by decide, by decide⟩) hh hC rfl rfl hl.1 rfl (Nat.le_of_ble_eq_true rfl) dX5_noteEnd_2 ⟨Nat.zero_le _, Nat.zero_le _⟩ (fun r C2 H locs hq hP hS => ?_)
  obtain ⟨hq1, hq2⟩ := hq; rw [hq1] at hP
  refine lv_if_eq (tgt := 34) F.1 F.2.1 dX5_noteEnd_5 (by decide) (fun c1 => ?_) (fun c1 => ?_)
  · exact w_vret F hr hlocks hP hS dX5_noteEnd_34 rfl
  · refine lv_iload_n F.1 F.2.1 dX5_noteEnd_8 rfl (lv_at hl 2 rfl) ?_
    refine lv_iconst (v := 1) F.1 F.2.1 dX5_noteEnd_9 (by decide) ?_
    refine lv_icmp_lt (tgt := 34) F.1 F.2.1 dX5_noteEnd_10 (by decide) (fun c2 => False.elim (absurd c2 (by decide))) (fun c2 => ?_)
    refine lv_iload_n F.1 F.2.1 dX5_noteEnd_13 rfl (lv_at hl 2 rfl) ?_
    refine lv_iconst (v := 3) F.1 F.2.1 dX5_noteEnd_14 (by decide) ?_
    refine lv_icmp_gt (tgt := 34) F.1 F.2.1 dX5_noteEnd_15 (by decide) (fun c3 => ?_) (fun c3 => False.elim (absurd (show (3 : Int32) < 4 by decide) c3))
    exact w_vret F hr hlocks hP hS dX5_noteEnd_34 rfl
set_option maxRecDepth 20000 in
set_option maxHeartbeats 4000000 in
/-- the sum of a kind -/
theorem c_X5_sumOf (l : Launch) (D : va_G) (Y : Nat → ClassId) (ad : Nat → Nat) (N : Nat) (hI : wI ad N) (C : Nat → va_E) (st : Nat) (hh : st + 6 < N) (f : Nat → Int32) (hs : isStair Y ad C st f) (ho : okS f) (kd : Int32) : Met l yX5_sumOf (wm yX5_sumOf cX5_sumOf 4 (some .int)) { frames := 2, cells := 0, slots := 0, locals := 43 } (wPc D Y ad N [.ref (ad st), .int (kd)] C) (wQi D ad N (fun r C' => C' = C ∧ r = T_sum kd f (f 4).toNatClampNeg)) 0 0 (wA ad N) := by
  refine wMet RX5 rfl (by decide +kernel) (Nat.le_of_ble_eq_true rfl) (lv := [(0, .ref (ad st)), (1, .int (kd))]) rfl ?_
  intro p e s m below meth c ls F hr hlocks hP hl
  have hS : va_S (wA ad N) s.heap s.heap [] := va_S.rf
  refine lv_iconst (v := 0) F.1 F.2.1 dX5_sumOf_0 (by decide) ?_
  refine lv_istore_n (lv' := [(2, .int (0)), (0, .ref (ad st)), (1, .int (kd))]) F.1 F.2.1 dX5_sumOf_1 rfl hl (by decide) rfl (fun ls hl => ?_)
  refine lv_iconst (v := 0) F.1 F.2.1 dX5_sumOf_2 (by decide) ?_
  refine lv_istore_n (lv' := [(3, .int (0)), (2, .int (0)), (0, .ref (ad st)), (1, .int (kd))]) F.1 F.2.1 dX5_sumOf_3 rfl hl (by decide) rfl (fun ls hl => ?_)
  refine w_loop (Inv := fun j ls C' => ∃ k : Nat, j = (f 4).toNatClampNeg - k ∧ k ≤ (f 4).toNatClampNeg ∧ lv_has ls 4 [(3, .int (nI k)), (2, .int (T_sum kd f k)), (0, .ref (ad st)), (1, .int (kd))] ∧ C' = C) ?_ (f 4).toNatClampNeg ⟨0, rfl, Nat.zero_le _, lv_sub hl [0, 1, 2, 3] rfl, rfl⟩ hP hS
  intro j ih H locs ls C1 hInv hP hS
  obtain ⟨k, hi, hk, hl, hC1⟩ := hInv
  rw [hC1] at hP
  refine lv_iload_n F.1 F.2.1 dX5_sumOf_4 rfl (lv_at hl 0 rfl) ?_
  refine lv_aload_n F.1 F.2.1 dX5_sumOf_5 rfl (lv_at hl 2 rfl) ?_
  refine gf_X5_14 F hP (by omega) hs.1 (v := .int (f 4)) rfl dX5_sumOf_6 ?_
  refine lv_icmp_ge (tgt := 37) F.1 F.2.1 dX5_sumOf_9 (by decide) (fun c1 => ?_) (fun c1 => ?_)
  · refine lv_iload_n F.1 F.2.1 dX5_sumOf_37 rfl (lv_at hl 1 rfl) ?_
    exact w_iret F hr hlocks hP hS dX5_sumOf_38 ⟨rfl, by rw [lc_out c1 hk]⟩
  · have hkm := lc_in c1 hk
    have hk20 : k < 20 := by have := m20 ho; omega
    have hkn : nI k < f 4 := i_lt c1
    refine lv_aload_n F.1 F.2.1 dX5_sumOf_12 rfl (lv_at hl 2 rfl) ?_
    refine lv_iload_n F.1 F.2.1 dX5_sumOf_13 rfl (lv_at hl 0 rfl) ?_
    refine lv_iconst (v := 0) F.1 F.2.1 dX5_sumOf_14 (by decide) ?_
    refine w_calli F hP hS (c_X5_entry l D Y ad N hI _ st hh f hs k 0 hk20 hkn (by decide)) (cwVm 2 F.2.2.2.2.1 (fun _ h => h) mw_300 mw_492 mw_298 mw_299 mw_42 rfl rfl ydX5_entry ⟨by decide, by decide⟩) (by omega) hs.1 rfl rfl hl.1 rfl (Nat.le_of_ble_eq_true rfl) dX5_sumOf_15 ⟨Nat.zero_le _, Nat.zero_le _⟩ (fun r C2 H locs hq hP hS => ?_)
    obtain ⟨hq1, hq2⟩ := hq; rw [hq1] at hP
    have hq2 : r = kindAt f k := hq2.trans (congrArg f (by omega))
    subst hq2
    refine lv_iload_n F.1 F.2.1 dX5_sumOf_18 rfl (lv_at hl 3 rfl) ?_
    refine lv_icmp_ne (tgt := 31) F.1 F.2.1 dX5_sumOf_19 (by decide) (fun c2 => ?_) (fun c2 => ?_)
    · refine lv_iinc (v := (nI k) + 1) (lv' := [(3, .int ((nI k) + 1)), (2, .int (T_sum kd f k)), (0, .ref (ad st)), (1, .int (kd))]) F.1 F.2.1 dX5_sumOf_31 hl (k := 0) rfl rfl (by decide) rfl (fun ls hl => ?_)
      refine lv_goto (tgt := 4) F.1 F.2.1 dX5_sumOf_34 (by decide) ?_
      exact ih _ (by omega) _ _ _ C ⟨k + 1, rfl, hkm, (by rw [nI_succ, show T_sum kd f (k + 1) = T_sum kd f k from if_neg c2]; exact lv_sub hl [0, 1, 2, 3] rfl), rfl⟩ hP hS
    · refine lv_iload_n F.1 F.2.1 dX5_sumOf_22 rfl (lv_at hl 1 rfl) ?_
      refine lv_aload_n F.1 F.2.1 dX5_sumOf_23 rfl (lv_at hl 2 rfl) ?_
      refine lv_iload_n F.1 F.2.1 dX5_sumOf_24 rfl (lv_at hl 0 rfl) ?_
      refine lv_iconst (v := 1) F.1 F.2.1 dX5_sumOf_25 (by decide) ?_
      refine w_calli F hP hS (c_X5_entry l D Y ad N hI _ st hh f hs k 1 hk20 hkn (by decide)) (cwVm 2 F.2.2.2.2.1 (fun _ h => h) mw_300 mw_492 mw_298 mw_299 mw_42 rfl rfl ydX5_entry ⟨by decide, by decide⟩) (by omega) hs.1 rfl rfl hl.1 rfl (Nat.le_of_ble_eq_true rfl) dX5_sumOf_26 ⟨Nat.zero_le _, Nat.zero_le _⟩ (fun r C2 H locs hq hP hS => ?_)
      obtain ⟨hq1, hq2⟩ := hq; rw [hq1] at hP
      have hq2 : r = valAt f k := hq2.trans (congrArg f (by omega))
      subst hq2
      refine lv_iadd F.1 F.2.1 dX5_sumOf_29 ?_
      refine lv_istore_n (lv' := [(2, .int ((T_sum kd f k) + (valAt f k))), (3, .int (nI k)), (0, .ref (ad st)), (1, .int (kd))]) F.1 F.2.1 dX5_sumOf_30 rfl hl (by decide) rfl (fun ls hl => ?_)
      refine lv_iinc (v := (nI k) + 1) (lv' := [(3, .int ((nI k) + 1)), (2, .int ((T_sum kd f k) + (valAt f k))), (0, .ref (ad st)), (1, .int (kd))]) F.1 F.2.1 dX5_sumOf_31 hl (k := 1) rfl rfl (by decide) rfl (fun ls hl => ?_)
      refine lv_goto (tgt := 4) F.1 F.2.1 dX5_sumOf_34 (by decide) ?_
      exact ih _ (by omega) _ _ _ C ⟨k + 1, rfl, hkm, (by rw [nI_succ, show T_sum kd f (k + 1) = T_sum kd f k + valAt f k from if_pos c2]; exact lv_sub hl [0, 1, 2, 3] rfl), rfl⟩ hP hS
set_option maxRecDepth 20000 in
set_option maxHeartbeats 4000000 in
/-- the narrowest gate -/
theorem c_X5_narrowestGate (l : Launch) (D : va_G) (Y : Nat → ClassId) (ad : Nat → Nat) (N : Nat) (hI : wI ad N) (C : Nat → va_E) (st : Nat) (hh : st + 6 < N) (f : Nat → Int32) (hs : isStair Y ad C st f) (ho : okS f) : Met l yX5_narrowestGate (wm yX5_narrowestGate cX5_narrowestGate 4 (some .int)) { frames := 2, cells := 0, slots := 0, locals := 43 } (wPc D Y ad N [.ref (ad st)] C) (wQi D ad N (fun r C' => C' = C ∧ r = T_least f (f 4).toNatClampNeg)) 0 0 (wA ad N) := by
  refine wMet RX5 rfl (by decide +kernel) (Nat.le_of_ble_eq_true rfl) (lv := [(0, .ref (ad st))]) rfl ?_
  intro p e s m below meth c ls F hr hlocks hP hl
  have hS : va_S (wA ad N) s.heap s.heap [] := va_S.rf
  refine lv_iconst (v := 0) F.1 F.2.1 dX5_narrowestGate_0 (by decide) ?_
  refine lv_istore_n (lv' := [(1, .int (0)), (0, .ref (ad st))]) F.1 F.2.1 dX5_narrowestGate_1 rfl hl (by decide) rfl (fun ls hl => ?_)
  refine lv_iconst (v := 0) F.1 F.2.1 dX5_narrowestGate_2 (by decide) ?_
  refine lv_istore_n (lv' := [(2, .int (0)), (1, .int (0)), (0, .ref (ad st))]) F.1 F.2.1 dX5_narrowestGate_3 rfl hl (by decide) rfl (fun ls hl => ?_)
  refine w_loop (Inv := fun j ls C' => ∃ k : Nat, j = (f 4).toNatClampNeg - k ∧ k ≤ (f 4).toNatClampNeg ∧ lv_has ls 4 [(2, .int (nI k)), (1, .int (T_least f k)), (0, .ref (ad st))] ∧ C' = C) ?_ (f 4).toNatClampNeg ⟨0, rfl, Nat.zero_le _, lv_sub hl [0, 1, 2] rfl, rfl⟩ hP hS
  intro j ih H locs ls C1 hInv hP hS
  obtain ⟨k, hi, hk, hl, hC1⟩ := hInv
  rw [hC1] at hP
  refine lv_iload_n F.1 F.2.1 dX5_narrowestGate_4 rfl (lv_at hl 0 rfl) ?_
  refine lv_aload_n F.1 F.2.1 dX5_narrowestGate_5 rfl (lv_at hl 2 rfl) ?_
  refine gf_X5_14 F hP (by omega) hs.1 (v := .int (f 4)) rfl dX5_narrowestGate_6 ?_
  refine lv_icmp_ge (tgt := 46) F.1 F.2.1 dX5_narrowestGate_9 (by decide) (fun c1 => ?_) (fun c1 => ?_)
  · refine lv_iload_n F.1 F.2.1 dX5_narrowestGate_46 rfl (lv_at hl 1 rfl) ?_
    exact w_iret F hr hlocks hP hS dX5_narrowestGate_47 ⟨rfl, by rw [lc_out c1 hk]⟩
  · have hkm := lc_in c1 hk
    have hk20 : k < 20 := by have := m20 ho; omega
    have hkn : nI k < f 4 := i_lt c1
    refine lv_aload_n F.1 F.2.1 dX5_narrowestGate_12 rfl (lv_at hl 2 rfl) ?_
    refine lv_iload_n F.1 F.2.1 dX5_narrowestGate_13 rfl (lv_at hl 0 rfl) ?_
    refine lv_iconst (v := 1) F.1 F.2.1 dX5_narrowestGate_14 (by decide) ?_
    refine w_calli F hP hS (c_X5_entry l D Y ad N hI _ st hh f hs k 1 hk20 hkn (by decide)) (cwVm 2 F.2.2.2.2.1 (fun _ h => h) mw_300 mw_492 mw_298 mw_299 mw_42 rfl rfl ydX5_entry ⟨by decide, by decide⟩) (by omega) hs.1 rfl rfl hl.1 rfl (Nat.le_of_ble_eq_true rfl) dX5_narrowestGate_15 ⟨Nat.zero_le _, Nat.zero_le _⟩ (fun r C2 H locs hq hP hS => ?_)
    obtain ⟨hq1, hq2⟩ := hq; rw [hq1] at hP
    have hq2 : r = valAt f k := hq2.trans (congrArg f (by omega))
    subst hq2
    refine lv_istore_n (lv' := [(3, .int (valAt f k)), (2, .int (nI k)), (1, .int (T_least f k)), (0, .ref (ad st))]) F.1 F.2.1 dX5_narrowestGate_18 rfl hl (by decide) rfl (fun ls hl => ?_)
    refine lv_aload_n F.1 F.2.1 dX5_narrowestGate_19 rfl (lv_at hl 3 rfl) ?_
    refine lv_iload_n F.1 F.2.1 dX5_narrowestGate_20 rfl (lv_at hl 1 rfl) ?_
    refine lv_iconst (v := 0) F.1 F.2.1 dX5_narrowestGate_21 (by decide) ?_
    refine w_calli F hP hS (c_X5_entry l D Y ad N hI _ st hh f hs k 0 hk20 hkn (by decide)) (cwVm 2 F.2.2.2.2.1 (fun _ h => h) mw_300 mw_492 mw_298 mw_299 mw_42 rfl rfl ydX5_entry ⟨by decide, by decide⟩) (by omega) hs.1 rfl rfl hl.1 rfl (Nat.le_of_ble_eq_true rfl) dX5_narrowestGate_22 ⟨Nat.zero_le _, Nat.zero_le _⟩ (fun r C2 H locs hq hP hS => ?_)
    obtain ⟨hq1, hq2⟩ := hq; rw [hq1] at hP
    have hq2 : r = kindAt f k := hq2.trans (congrArg f (by omega))
    subst hq2
    refine lv_iconst (v := 2) F.1 F.2.1 dX5_narrowestGate_25 (by decide) ?_
    refine lv_icmp_ne (tgt := 40) F.1 F.2.1 dX5_narrowestGate_26 (by decide) (fun c2 => ?_) (fun c2 => ?_)
    · refine lv_iinc (v := (nI k) + 1) (lv' := [(2, .int ((nI k) + 1)), (3, .int (valAt f k)), (1, .int (T_least f k)), (0, .ref (ad st))]) F.1 F.2.1 dX5_narrowestGate_40 hl (k := 1) rfl rfl (by decide) rfl (fun ls hl => ?_)
      refine lv_goto (tgt := 4) F.1 F.2.1 dX5_narrowestGate_43 (by decide) ?_
      exact ih _ (by omega) _ _ _ C ⟨k + 1, rfl, hkm, (by rw [nI_succ, show T_least f (k + 1) = T_least f k from if_neg (fun q => c2 q.1)]; exact lv_sub hl [0, 2, 3] rfl), rfl⟩ hP hS
    · refine lv_iload_n F.1 F.2.1 dX5_narrowestGate_29 rfl (lv_at hl 2 rfl) ?_
      refine lv_if_eq (tgt := 38) F.1 F.2.1 dX5_narrowestGate_30 (by decide) (fun c3 => ?_) (fun c3 => ?_)
      · refine lv_iload_n F.1 F.2.1 dX5_narrowestGate_38 rfl (lv_at hl 0 rfl) ?_
        refine lv_istore_n (lv' := [(1, .int (valAt f k)), (3, .int (valAt f k)), (2, .int (nI k)), (0, .ref (ad st))]) F.1 F.2.1 dX5_narrowestGate_39 rfl hl (by decide) rfl (fun ls hl => ?_)
        refine lv_iinc (v := (nI k) + 1) (lv' := [(2, .int ((nI k) + 1)), (1, .int (valAt f k)), (3, .int (valAt f k)), (0, .ref (ad st))]) F.1 F.2.1 dX5_narrowestGate_40 hl (k := 2) rfl rfl (by decide) rfl (fun ls hl => ?_)
        refine lv_goto (tgt := 4) F.1 F.2.1 dX5_narrowestGate_43 (by decide) ?_
        exact ih _ (by omega) _ _ _ C ⟨k + 1, rfl, hkm, (by rw [nI_succ, show T_least f (k + 1) = valAt f k from if_pos ⟨c2, Or.inl c3⟩]; exact lv_sub hl [0, 1, 3] rfl), rfl⟩ hP hS
      · refine lv_iload_n F.1 F.2.1 dX5_narrowestGate_33 rfl (lv_at hl 0 rfl) ?_
        refine lv_iload_n F.1 F.2.1 dX5_narrowestGate_34 rfl (lv_at hl 2 rfl) ?_
        refine lv_icmp_ge (tgt := 40) F.1 F.2.1 dX5_narrowestGate_35 (by decide) (fun c4 => ?_) (fun c4 => ?_)
        · refine lv_iinc (v := (nI k) + 1) (lv' := [(2, .int ((nI k) + 1)), (3, .int (valAt f k)), (1, .int (T_least f k)), (0, .ref (ad st))]) F.1 F.2.1 dX5_narrowestGate_40 hl (k := 1) rfl rfl (by decide) rfl (fun ls hl => ?_)
          refine lv_goto (tgt := 4) F.1 F.2.1 dX5_narrowestGate_43 (by decide) ?_
          exact ih _ (by omega) _ _ _ C ⟨k + 1, rfl, hkm, (by rw [nI_succ, show T_least f (k + 1) = T_least f k from if_neg (fun q => q.2.elim c3 (i_nlt c4))]; exact lv_sub hl [0, 2, 3] rfl), rfl⟩ hP hS
        · refine lv_iload_n F.1 F.2.1 dX5_narrowestGate_38 rfl (lv_at hl 0 rfl) ?_
          refine lv_istore_n (lv' := [(1, .int (valAt f k)), (3, .int (valAt f k)), (2, .int (nI k)), (0, .ref (ad st))]) F.1 F.2.1 dX5_narrowestGate_39 rfl hl (by decide) rfl (fun ls hl => ?_)
          refine lv_iinc (v := (nI k) + 1) (lv' := [(2, .int ((nI k) + 1)), (1, .int (valAt f k)), (3, .int (valAt f k)), (0, .ref (ad st))]) F.1 F.2.1 dX5_narrowestGate_40 hl (k := 2) rfl rfl (by decide) rfl (fun ls hl => ?_)
          refine lv_goto (tgt := 4) F.1 F.2.1 dX5_narrowestGate_43 (by decide) ?_
          exact ih _ (by omega) _ _ _ C ⟨k + 1, rfl, hkm, (by rw [nI_succ, show T_least f (k + 1) = valAt f k from if_pos ⟨c2, Or.inr (i_lt c4)⟩]; exact lv_sub hl [0, 1, 3] rfl), rfl⟩ hP hS
end
section
/-! HoopStairs$Settings -/
/-- may a setting be so -/
abbrev T_can (x v : Int32) : Prop := (x = 0 ∧ 10 ≤ v ∧ v ≤ 99) ∨ ((x = 1 ∨ x = 2) ∧ 0 ≤ v ∧ v ≤ 20) ∨ (x = 3 ∧ 1 ≤ v ∧ v ≤ 30)
theorem can_iff {k : Nat} (hk : k < 4) {v : Int32} : T_can (nI k) v ↔ LEv k ≤ v ∧ v ≤ GRv k := by
  match k, hk with
  | 0, _ => exact ⟨fun h => by rcases h with h | h | h; exact h.2; exact absurd h.1 (by decide); exact absurd h.1 (by decide), fun h => Or.inl ⟨rfl, h⟩⟩
  | 1, _ => exact ⟨fun h => by rcases h with h | h | h; exact absurd h.1 (by decide); exact h.2; exact absurd h.1 (by decide), fun h => Or.inr (Or.inl ⟨Or.inl rfl, h⟩)⟩
  | 2, _ => exact ⟨fun h => by rcases h with h | h | h; exact absurd h.1 (by decide); exact h.2; exact absurd h.1 (by decide), fun h => Or.inr (Or.inl ⟨Or.inr rfl, h⟩)⟩
  | 3, _ => exact ⟨fun h => by rcases h with h | h | h; exact absurd h.1 (by decide); exact absurd h.1 (by decide); exact h.2, fun h => Or.inr (Or.inr ⟨rfl, h⟩)⟩
  | k + 4, h => exact absurd h (by omega)
theorem can_in {x v : Int32} (h : T_can x v) : ∃ k : Nat, k < 4 ∧ x = nI k := by
  rcases h with h | h | h
  · exact ⟨0, by decide, h.1⟩
  · rcases h.1 with q | q
    · exact ⟨1, by decide, q⟩
    · exact ⟨2, by decide, q⟩
  · exact ⟨3, by decide, h.1⟩
theorem in4 {x : Int32} (h1 : ¬ x < 0) (h2 : ¬ 4 ≤ x) : ∃ k : Nat, k < 4 ∧ x = nI k := by
  obtain ⟨j, hj, rfl⟩ := nI_of h1
  refine ⟨j, ?_, rfl⟩
  exact Nat.not_le.mp (fun q => h2 (nI_le (a := 4) q hj))
set_option maxRecDepth 20000 in
set_option maxHeartbeats 4000000 in
/-- settings copied -/
theorem c_X4_copyFrom (l : Launch) (D : va_G) (Y : Nat → ClassId) (ad : Nat → Nat) (N : Nat) (hI : wI ad N) (C : Nat → va_E) (st so : Nat) (hh : st + 1 < N) (hh2 : so + 1 < N) (hd : st + 2 ≤ so ∨ so + 2 ≤ st) (f f2 : Nat → Int32) (hs : isSett Y ad C st f) (ho : isSett Y ad C so f2) : Met l yX4_copyFrom (wm yX4_copyFrom cX4_copyFrom 2 none) { frames := 1, cells := 0, slots := 0, locals := 24 } (wPc D Y ad N [.ref (ad st), .ref (ad so)] C) (wQv D ad N (fun C' => isSett Y ad C' st f2 ∧ ∀ j, j < st ∨ st + 2 ≤ j → C' j = C j)) 0 0 (wA ad N) := by
  obtain ⟨q1, h1, h1q⟩ := hs.2
  obtain ⟨q2, h2, h2q⟩ := ho.2
  refine wMet RX4 rfl (by decide +kernel) (Nat.le_of_ble_eq_true rfl) (lv := [(0, .ref (ad st)), (1, .ref (ad so))]) rfl ?_
  intro p e s m below meth c ls F hr hlocks hP hl
  have hS : va_S (wA ad N) s.heap s.heap [] := va_S.rf
  refine lv_aload_n F.1 F.2.1 dX4_copyFrom_0 rfl (lv_at hl 1 rfl) ?_
  refine gf_X4_18 F hP (by omega) ho.1 (v := .ref (ad (so + 1))) rfl dX4_copyFrom_1 ?_
  refine lv_iconst (v := 0) F.1 F.2.1 dX4_copyFrom_4 (by decide) ?_
  refine lv_aload_n F.1 F.2.1 dX4_copyFrom_5 rfl (lv_at hl 0 rfl) ?_
  refine gf_X4_18 F hP (by omega) hs.1 (v := .ref (ad (st + 1))) rfl dX4_copyFrom_6 ?_
  refine lv_iconst (v := 0) F.1 F.2.1 dX4_copyFrom_9 (by decide) ?_
  refine lv_iconst (v := 4) F.1 F.2.1 dX4_copyFrom_10 (by decide) ?_
  refine w_acpy F hI hl.1 hP hS mw_141 (h0 := so + 1) (h1 := st + 1) (by omega) (by omega) h2 h1 (a := 0) (b := 0) (k := 4) rfl rfl rfl (by decide) (by decide) (by decide) (by decide) (by decide) (Nat.le_of_ble_eq_true rfl) up_rfl dX4_copyFrom_11 (fun H locs hP hS => ?_)
  exact w_vret F hr hlocks hP hS dX4_copyFrom_14 ⟨⟨(va_up_ne _ _ (by omega)).trans hs.1, _, va_up_self _ _ _, fun i hi => by rw [pk_cpy_in (by omega) (by omega), show 0 + (i - 0) = i by omega]; exact h2q i hi⟩, fun j hj => va_up_ne _ _ (by omega)⟩
set_option maxRecDepth 20000 in
set_option maxHeartbeats 4000000 in
/-- may a setting be so -/
theorem c_X4_allows (l : Launch) (D : va_G) (Y : Nat → ClassId) (ad : Nat → Nat) (N : Nat) (hI : wI ad N) (C : Nat → va_E) (st : Nat) (hh : st < N) (fs : List Value) (hs : C st = .inr (4, fs)) (x v : Int32) : Met l yX4_allows (wm yX4_allows cX4_allows 3 (some .boolean)) { frames := 0, cells := 0, slots := 0, locals := 0 } (wPc D Y ad N [.ref (ad st), .int (x), .int (v)] C) (wQi D ad N (fun r C' => C' = C ∧ r = if T_can x v then 1 else 0)) 0 0 (wA ad N) := by
  refine wMet RX4 rfl (by decide +kernel) (Nat.le_of_ble_eq_true rfl) (lv := [(0, .ref (ad st)), (1, .int (x)), (2, .int (v))]) rfl ?_
  intro p e s m below meth c ls F hr hlocks hP hl
  have hS : va_S (wA ad N) s.heap s.heap [] := va_S.rf
  refine lv_iload_n F.1 F.2.1 dX4_allows_0 rfl (lv_at hl 1 rfl) ?_
  refine lv_if_lt (tgt := 31) F.1 F.2.1 dX4_allows_1 (by decide) (fun c1 => ?_) (fun c1 => ?_)
  · refine lv_iconst (v := 0) F.1 F.2.1 dX4_allows_31 (by decide) ?_
    exact w_zret F hr hlocks hP hS (Or.inl rfl) dX4_allows_32 ⟨rfl, by rw [if_neg (fun q => by obtain ⟨k, hk, ek⟩ := can_in q; rw [ek] at c1; exact nI_pos (by omega) c1)]⟩
  · refine lv_iload_n F.1 F.2.1 dX4_allows_4 rfl (lv_at hl 1 rfl) ?_
    refine lv_iconst (v := 4) F.1 F.2.1 dX4_allows_5 (by decide) ?_
    refine lv_icmp_ge (tgt := 31) F.1 F.2.1 dX4_allows_6 (by decide) (fun c2 => ?_) (fun c2 => ?_)
    · refine lv_iconst (v := 0) F.1 F.2.1 dX4_allows_31 (by decide) ?_
      exact w_zret F hr hlocks hP hS (Or.inl rfl) dX4_allows_32 ⟨rfl, by rw [if_neg (fun q => by obtain ⟨k, hk, ek⟩ := can_in q; rw [ek] at c2; exact nI_ge (b := 4) hk (by decide) c2)]⟩
    · refine lv_iload_n F.1 F.2.1 dX4_allows_9 rfl (lv_at hl 2 rfl) ?_
      obtain ⟨k, hk, ek⟩ := in4 c1 c2
      obtain ⟨t1, hz1, ht1⟩ := F.2.2.2.2.2.2.2.1
      obtain ⟨t2, hz2, ht2⟩ := F.2.2.2.2.2.2.2.2.1
      refine va_gets F.1 F.2.1 hz1 hS F.2.2.2.1 (F.2.2.2.2.1 _ mw_119) (fun _ h9 => h9) dX4_allows_10 ?_
      refine lv_iload_n F.1 F.2.1 dX4_allows_13 rfl (lv_at hl 1 rfl) ?_
      refine w_stab F hS ht1 (k := k) ek hk (v := LEv k) rfl dX4_allows_14 ?_
      refine lv_icmp_lt (tgt := 31) F.1 F.2.1 dX4_allows_15 (by decide) (fun c3 => ?_) (fun c3 => ?_)
      · refine lv_iconst (v := 0) F.1 F.2.1 dX4_allows_31 (by decide) ?_
        exact w_zret F hr hlocks hP hS (Or.inl rfl) dX4_allows_32 ⟨rfl, by rw [ek, if_neg (fun q => i_nle c3 ((can_iff hk).mp q).1)]⟩
      · refine lv_iload_n F.1 F.2.1 dX4_allows_18 rfl (lv_at hl 2 rfl) ?_
        refine va_gets F.1 F.2.1 hz2 hS F.2.2.2.1 (F.2.2.2.2.1 _ mw_120) (fun _ h9 => h9) dX4_allows_19 ?_
        refine lv_iload_n F.1 F.2.1 dX4_allows_22 rfl (lv_at hl 1 rfl) ?_
        refine w_stab F hS ht2 (k := k) ek hk (v := GRv k) rfl dX4_allows_23 ?_
        refine lv_icmp_gt (tgt := 31) F.1 F.2.1 dX4_allows_24 (by decide) (fun c4 => ?_) (fun c4 => ?_)
        · refine lv_iconst (v := 0) F.1 F.2.1 dX4_allows_31 (by decide) ?_
          exact w_zret F hr hlocks hP hS (Or.inl rfl) dX4_allows_32 ⟨rfl, by rw [ek, if_neg (fun q => i_nlt ((can_iff hk).mp q).2 c4)]⟩
        · refine lv_iconst (v := 1) F.1 F.2.1 dX4_allows_27 (by decide) ?_
          refine lv_goto (tgt := 32) F.1 F.2.1 dX4_allows_28 (by decide) ?_
          exact w_zret F hr hlocks hP hS (Or.inr rfl) dX4_allows_32 ⟨rfl, by rw [ek, if_pos ((can_iff hk).mpr ⟨i_le c3, i_le c4⟩)]⟩
set_option maxRecDepth 20000 in
set_option maxHeartbeats 4000000 in
/-- a setting changes -/
theorem c_X4_change (l : Launch) (D : va_G) (Y : Nat → ClassId) (ad : Nat → Nat) (N : Nat) (hI : wI ad N) (C : Nat → va_E) (st : Nat) (hh : st + 1 < N) (f : Nat → Int32) (hs : isSett Y ad C st f) (k : Nat) (v : Int32) (hk : k < 4) (hc : T_can (nI k) v) : Met l yX4_change (wm yX4_change cX4_change 4 (some .int)) { frames := 1, cells := 0, slots := 0, locals := 22 } (wPc D Y ad N [.ref (ad st), .int (nI k), .int (v)] C) (wQi D ad N (fun r C' => r = f k ∧ isSett Y ad C' st (upd f k v) ∧ ∀ j, j < st ∨ st + 2 ≤ j → C' j = C j)) 0 0 (wA ad N) := by
  obtain ⟨q1, h1, h1q⟩ := hs.2
  refine wMet RX4 rfl (by decide +kernel) (Nat.le_of_ble_eq_true rfl) (lv := [(0, .ref (ad st)), (1, .int (nI k)), (2, .int (v))]) rfl ?_
  intro p e s m below meth c ls F hr hlocks hP hl
  have hS : va_S (wA ad N) s.heap s.heap [] := va_S.rf
  refine lv_aload_n F.1 F.2.1 dX4_change_0 rfl (lv_at hl 0 rfl) ?_
  refine lv_iload_n F.1 F.2.1 dX4_change_1 rfl (lv_at hl 1 rfl) ?_
  refine w_calli F hP hS (c_X4_value l D Y ad N hI _ st hh f hs k hk) (cwVm 1 F.2.2.2.2.1 (fun _ h => h) mw_172 mw_169 mw_170 mw_171 mw_38 rfl rfl ydX4_value ⟨by decide, by decide⟩) (by omega) hs.1 rfl rfl hl.1 rfl (Nat.le_of_ble_eq_true rfl) dX4_change_2 ⟨Nat.zero_le _, Nat.zero_le _⟩ (fun r C2 H locs hq hP hS => ?_)
  obtain ⟨hq1, hq2⟩ := hq; rw [hq1] at hP; subst hq2
  refine lv_istore_n (lv' := [(3, .int (f k)), (0, .ref (ad st)), (1, .int (nI k)), (2, .int (v))]) F.1 F.2.1 dX4_change_5 rfl hl (by decide) rfl (fun ls hl => ?_)
  refine lv_aload_n F.1 F.2.1 dX4_change_6 rfl (lv_at hl 1 rfl) ?_
  refine lv_iload_n F.1 F.2.1 dX4_change_7 rfl (lv_at hl 2 rfl) ?_
  refine lv_iload_n F.1 F.2.1 dX4_change_8 rfl (lv_at hl 3 rfl) ?_
  refine w_calli F hP hS (c_X4_allows l D Y ad N hI _ st (by omega) _ hs.1 (nI k) v) (cwVm 2 F.2.2.2.2.1 (fun _ h => h) mw_118 mw_173 mw_116 mw_117 mw_38 rfl rfl ydX4_allows ⟨by decide, by decide⟩) (by omega) hs.1 rfl rfl hl.1 rfl (Nat.le_of_ble_eq_true rfl) dX4_change_9 ⟨Nat.zero_le _, Nat.zero_le _⟩ (fun r C2 H locs hq hP hS => ?_)
  obtain ⟨hq1, hq2⟩ := hq; rw [hq1] at hP; rw [if_pos hc] at hq2; subst hq2
  refine lv_if_eq (tgt := 22) F.1 F.2.1 dX4_change_12 (by decide) (fun c1 => False.elim (absurd c1 (by decide))) (fun c1 => ?_)
  refine lv_aload_n F.1 F.2.1 dX4_change_15 rfl (lv_at hl 1 rfl) ?_
  refine gf_X4_18 F hP (by omega) hs.1 (v := .ref (ad (st + 1))) rfl dX4_change_16 ?_
  refine lv_iload_n F.1 F.2.1 dX4_change_19 rfl (lv_at hl 2 rfl) ?_
  refine lv_iload_n F.1 F.2.1 dX4_change_20 rfl (lv_at hl 3 rfl) ?_
  refine w_iast F hI hP hS (by omega) h1 (k := k) rfl hk (by decide) (C1 := va_up C (st + 1) (.inl (Y 0, 4, .inl (upd q1 k v)))) (fun j => rfl) dX4_change_21 (fun H locs hP hS => ?_)
  refine lv_iload_n F.1 F.2.1 dX4_change_22 rfl (lv_at hl 0 rfl) ?_
  exact w_iret F hr hlocks hP hS dX4_change_23 ⟨rfl, ⟨(va_up_ne _ _ (by omega)).trans hs.1, _, va_up_self _ _ _, fun i hi => by unfold upd; by_cases a : i = k <;> simp only [a, if_true, if_false] <;> first | rfl | exact h1q i hi⟩, fun j hj => va_up_ne _ _ (by omega)⟩
end
section
/-! HoopStairs$State: what it is -/
theorem isSett_same {Y : Nat → ClassId} {ad : Nat → Nat} {C C' : Nat → va_E} {se : Nat} {f : Nat → Int32} (hs : isSett Y ad C se f) (h : ∀ j, se ≤ j → j < se + 2 → C' j = C j) : isSett Y ad C' se f := by
  obtain ⟨h1, q, h2, h3⟩ := hs
  exact ⟨by rw [h _ (by omega) (by omega), h1], q, by rw [h _ (by omega) (by omega), h2], h3⟩
theorem isStair_same {Y : Nat → ClassId} {ad : Nat → Nat} {C C' : Nat → va_E} {st : Nat} {f : Nat → Int32} (hs : isStair Y ad C st f) (h : ∀ j, st ≤ j → j < st + 7 → C' j = C j) : isStair Y ad C' st f := by
  obtain ⟨h1, ⟨q, h2, h2q⟩, h3⟩ := hs
  refine ⟨by rw [h _ (by omega) (by omega), h1], ⟨q, by rw [h _ (by omega) (by omega), h2], h2q⟩, ?_⟩
  exact isGrid_same h3 (fun j a b => h j (by omega) (by omega))
theorem isLog_same {Y : Nat → ClassId} {ad : Nat → Nat} {C C' : Nat → va_E} {lg : Nat} {f : Nat → Int32} (hs : isLog Y ad C lg f) (h : ∀ j, lg ≤ j → j < lg + 6 → C' j = C j) : isLog Y ad C' lg f := by
  obtain ⟨h1, ⟨q, h2, h2q⟩, h3⟩ := hs
  refine ⟨by rw [h _ (by omega) (by omega), h1], ⟨q, by rw [h _ (by omega) (by omega), h2], h2q⟩, ?_⟩
  exact isGrid_same h3 (fun j a b => h j (by omega) (by omega))
theorem isSett_row {Y : Nat → ClassId} {ad : Nat → Nat} {C : Nat → va_E} {se : Nat} {f f1 : Nat → Int32} (hs : isSett Y ad C se f) (h : ∀ q, q < 4 → f1 q = f q) : isSett Y ad C se f1 := by
  obtain ⟨h1, q, h2, h3⟩ := hs
  exact ⟨h1, q, h2, fun i hi => by rw [h3 i hi, h i hi]⟩
theorem isStair_row {Y : Nat → ClassId} {ad : Nat → Nat} {C : Nat → va_E} {st : Nat} {f f1 : Nat → Int32} (hs : isStair Y ad C st f) (h4 : f1 4 = f 4) (h : ∀ q, 61 ≤ q → q < 161 → f1 q = f q) : isStair Y ad C st f1 := by
  obtain ⟨h1, h2, h3⟩ := hs
  exact ⟨by rw [h1, h4], h2, isGrid_congr h3 (fun c k hc hk => (h _ (by omega) (by omega)).symm)⟩
theorem isLog_row {Y : Nat → ClassId} {ad : Nat → Nat} {C : Nat → va_E} {lg : Nat} {f f1 : Nat → Int32} (hs : isLog Y ad C lg f) (h : ∀ q, 20 ≤ q → q < 61 → f1 q = f q) : isLog Y ad C lg f1 := by
  obtain ⟨h1, h2, h3⟩ := hs
  exact ⟨by rw [h1, h 20 (by decide) (by decide)], h2, isGrid_congr h3 (fun c k hc hk => (h _ (by omega) (by omega)).symm)⟩
theorem hpR_row {f f1 : Nat → Int32} {g : Int32} (h : ∀ q, 5 ≤ q → q < 14 → f1 q = f q) : hpR f1 g = hpR f g := by
  unfold hpR hpV
  rw [h 5 (by decide) (by decide), h 6 (by decide) (by decide), h 7 (by decide) (by decide), h 8 (by decide) (by decide), h 9 (by decide) (by decide), h 10 (by decide) (by decide), h 11 (by decide) (by decide), h 12 (by decide) (by decide), h 13 (by decide) (by decide)]
abbrev stO (ad : Nat → Nat) (b : Nat) (v14 v19 : Int32) : va_E := .inr (6, [.ref (ad (b + 1)), .ref (ad (b + 3)), .ref (ad (b + 10)), .ref (ad (b + 11)), .ref (ad (b + 17)), .int v14, .int v19])
def isEnd (Y : Nat → ClassId) (C : Nat → va_E) (en : Nat) (f : Nat → Int32) : Prop := ∃ q : Nat → Int32, C en = .inl (Y 0, 5, .inl q) ∧ ∀ i, 1 ≤ i → i < 5 → q i = f (14 + i)
/-- a state at b: eighteen cells -/
def isState (Y : Nat → ClassId) (ad : Nat → Nat) (C : Nat → va_E) (b : Nat) (f : Nat → Int32) (g : Int32) : Prop :=
  C b = stO ad b (f 14) (f 19) ∧ isSett Y ad C (b + 1) f ∧ isStair Y ad C (b + 3) f ∧ C (b + 10) = hpR f g ∧ isLog Y ad C (b + 11) f ∧ isEnd Y C (b + 17) f
theorem isEnd_same {Y : Nat → ClassId} {C C' : Nat → va_E} {en : Nat} {f : Nat → Int32} (hs : isEnd Y C en f) (h : C' en = C en) : isEnd Y C' en f := by
  obtain ⟨q, h1, h2⟩ := hs
  exact ⟨q, by rw [h, h1], h2⟩
theorem isState_same {Y : Nat → ClassId} {ad : Nat → Nat} {C C' : Nat → va_E} {b : Nat} {f : Nat → Int32} {g : Int32} (hs : isState Y ad C b f g) (h : ∀ j, b ≤ j → j < b + 18 → C' j = C j) : isState Y ad C' b f g := by
  obtain ⟨h1, h2, h3, h4, h5, h6⟩ := hs
  exact ⟨(h _ (by omega) (by omega)).trans h1, isSett_same h2 (fun j a c => h j (by omega) (by omega)), isStair_same h3 (fun j a c => h j (by omega) (by omega)), (h _ (by omega) (by omega)).trans h4, isLog_same h5 (fun j a c => h j (by omega) (by omega)), isEnd_same h6 (h _ (by omega) (by omega))⟩
theorem isState_mk {Y : Nat → ClassId} {ad : Nat → Nat} {C : Nat → va_E} {b : Nat} {F f1 f2 f3 f4 f5 : Nat → Int32} {g v14 v19 : Int32} (h1 : C b = stO ad b v14 v19) (e14 : F 14 = v14) (e19 : F 19 = v19) (h2 : isSett Y ad C (b + 1) f1) (r1 : ∀ q, q < 4 → F q = f1 q) (h3 : isStair Y ad C (b + 3) f2) (r24 : F 4 = f2 4) (r2 : ∀ q, 61 ≤ q → q < 161 → F q = f2 q) (h4 : C (b + 10) = hpR f3 g) (r3 : ∀ q, 5 ≤ q → q < 14 → F q = f3 q) (h5 : isLog Y ad C (b + 11) f4) (r4 : ∀ q, 20 ≤ q → q < 61 → F q = f4 q) (h6 : isEnd Y C (b + 17) f5) (r5 : ∀ q, 15 ≤ q → q < 19 → F q = f5 q) : isState Y ad C b F g := by
  refine ⟨by rw [h1, e14, e19], isSett_row h2 r1, isStair_row h3 r24 r2, by rw [h4, hpR_row r3], isLog_row h5 r4, ?_⟩
  obtain ⟨q, a, c⟩ := h6
  exact ⟨q, a, fun i hi hj => by rw [c i hi hj, r5 _ (by omega) (by omega)]⟩
theorem isState_row {Y : Nat → ClassId} {ad : Nat → Nat} {C : Nat → va_E} {b : Nat} {F f : Nat → Int32} {g : Int32} (h : isState Y ad C b f g) (r : ∀ q, q < 161 → F q = f q) : isState Y ad C b F g := by
  obtain ⟨h1, h2, h3, h4, h5, h6⟩ := h
  exact isState_mk h1 (r _ (by decide)) (r _ (by decide)) h2 (fun q hq => r q (by omega)) h3 (r _ (by decide)) (fun q a c => r q (by omega)) h4 (fun q a c => r q (by omega)) h5 (fun q a c => r q (by omega)) h6 (fun q a c => r q (by omega))
theorem ins_out {k : Nat} {kd v : Int32} {f : Nat → Int32} {q : Nat} (h : q < 61) (h4 : q ≠ 4) (h5 : q ≠ 5) : T_insert k kd v f q = f q := by
  unfold T_insert
  rw [if_neg h4, if_neg h5, if_neg (by omega), if_neg (by omega), if_neg (by omega), if_neg (by omega)]
theorem rem_out {k : Nat} {f : Nat → Int32} {q : Nat} (h : q < 61) (h4 : q ≠ 4) (h5 : q ≠ 5) : T_remove k f q = f q := by
  unfold T_remove
  rw [if_neg h4, if_neg h5, if_neg (by omega)]
theorem ins_hp {k : Nat} {kd v : Int32} {f : Nat → Int32} {q : Nat} (h : 5 ≤ q) (h2 : q < 14) : T_insert k kd v f q = upd f 5 0 q := by
  by_cases a : q = 5
  · rw [a]; rfl
  · rw [upd_n a]; exact ins_out (by omega) (by omega) a
theorem rem_hp {k : Nat} {f : Nat → Int32} {q : Nat} (h : 5 ≤ q) (h2 : q < 14) : T_remove k f q = upd f 5 0 q := by
  by_cases a : q = 5
  · rw [a]; rfl
  · rw [upd_n a]; exact rem_out (by omega) (by omega) a
theorem lists_out {f : Nat → Int32} {q : Nat} (h : q < 20 ∨ 61 ≤ q) : T_lists f q = f q := by
  unfold T_lists
  rw [if_neg (by omega), if_neg (by omega), if_neg (by omega), if_neg (by omega), if_neg (by omega), if_neg (by omega)]
theorem lists_cong {f f1 : Nat → Int32} (h : ∀ q, (6 ≤ q ∧ q ≤ 12) ∨ (20 ≤ q ∧ q < 61) → f1 q = f q) {q : Nat} (h1 : 20 ≤ q) (h2 : q < 61) : T_lists f1 q = T_lists f q := by
  unfold T_lists
  rw [h 20 (by decide), h 6 (by decide), h 11 (by decide), h 10 (by decide), h 12 (by decide)]
  by_cases a : 25 ≤ q ∧ q < 61
  · rw [if_pos a, if_pos a, h (q - 4) (by omega)]
  · rw [if_neg a, if_neg a, h q (by omega)]
def T_pe (x kd v : Int32) (f : Nat → Int32) : Int32 := if 0 ≤ x ∧ x ≤ f 4 then (if 0 ≤ kd ∧ kd ≤ 2 ∧ 1 ≤ v ∧ v ≤ (if kd = 2 then 99 else 9) then (if 20 ≤ f 4 then -4 else 0) else -2) else -1
def rollsP (f : Nat → Int32) : Prop := f 5 = 1 ∧ f 11 = 0
end
section
/-! HoopStairs$State: its methods -/
set_option maxRecDepth 20000 in
set_option maxHeartbeats 4000000 in
/-- may a part come -/
theorem c_X6_partError (l : Launch) (D : va_G) (Y : Nat → ClassId) (ad : Nat → Nat) (N : Nat) (hI : wI ad N) (C : Nat → va_E) (b : Nat) (hh : b + 17 < N) (f : Nat → Int32) (g : Int32) (hs : isState Y ad C b f g) (x kd v : Int32) : Met l yX6_partError (wm yX6_partError cX6_partError 4 (some .int)) { frames := 1, cells := 0, slots := 0, locals := 21 } (wPc D Y ad N [.ref (ad b), .int (x), .int (kd), .int (v)] C) (wQi D ad N (fun r C' => C' = C ∧ r = T_pe x kd v f)) 0 0 (wA ad N) := by
  refine wMet RX6 rfl (by decide +kernel) (Nat.le_of_ble_eq_true rfl) (lv := [(0, .ref (ad b)), (1, .int (x)), (2, .int (kd)), (3, .int (v))]) rfl ?_
  intro p e s m below meth c ls F hr hlocks hP hl
  have hS : va_S (wA ad N) s.heap s.heap [] := va_S.rf
  refine lv_iload_n F.1 F.2.1 dX6_partError_0 rfl (lv_at hl 1 rfl) ?_
  refine lv_if_lt (tgt := 15) F.1 F.2.1 dX6_partError_1 (by decide) (fun c1 => ?_) (fun c1 => ?_)
  · refine lv_iconst (v := (-1)) F.1 F.2.1 dX6_partError_15 (by decide) ?_
    exact w_iret F hr hlocks hP hS dX6_partError_16 ⟨rfl, by unfold T_pe; rw [if_neg (fun q => i_nle c1 q.1)]⟩
  · refine lv_iload_n F.1 F.2.1 dX6_partError_4 rfl (lv_at hl 1 rfl) ?_
    refine lv_aload_n F.1 F.2.1 dX6_partError_5 rfl (lv_at hl 0 rfl) ?_
    refine gf_X6_21 F hP (by omega) hs.1 (v := .ref (ad (b + 3))) rfl dX6_partError_6 ?_
    refine gf_X6_69 F hP (by omega) hs.2.2.1.1 (v := .int (f 4)) rfl dX6_partError_9 ?_
    refine lv_icmp_le (tgt := 17) F.1 F.2.1 dX6_partError_12 (by decide) (fun c2 => ?_) (fun c2 => ?_)
    · refine lv_iload_n F.1 F.2.1 dX6_partError_17 rfl (lv_at hl 2 rfl) ?_
      refine lv_iload_n F.1 F.2.1 dX6_partError_18 rfl (lv_at hl 3 rfl) ?_
      refine w_calls F hP hS (c_X5_allows l D Y ad N hI _ kd v) (cwSm 2 F.2.2.2.2.1 (fun _ h => h) mw_199 mw_197 mw_198 mw_42 rfl rfl ydX5_allows ⟨by decide, by decide⟩) rfl hl.1 rfl (Nat.le_of_ble_eq_true rfl) dX6_partError_19 ⟨Nat.zero_le _, Nat.zero_le _⟩ (fun r C2 H locs hq hP hS => ?_)
      obtain ⟨hq1, hbrr3⟩ := hq; rw [hq1] at hP; generalize r = rr3 at hbrr3 ⊢
      refine lv_if_ne (tgt := 28) F.1 F.2.1 dX6_partError_22 (by decide) (fun c4 => ?_) (fun c4 => ?_)
      · refine lv_aload_n F.1 F.2.1 dX6_partError_28 rfl (lv_at hl 0 rfl) ?_
        refine gf_X6_21 F hP (by omega) hs.1 (v := .ref (ad (b + 3))) rfl dX6_partError_29 ?_
        refine gf_X6_69 F hP (by omega) hs.2.2.1.1 (v := .int (f 4)) rfl dX6_partError_32 ?_
        refine lv_bipush (v := 20) F.1 F.2.1 dX6_partError_35 (by decide) ?_
        refine lv_icmp_lt (tgt := 45) F.1 F.2.1 dX6_partError_37 (by decide) (fun c5 => ?_) (fun c5 => ?_)
        · refine lv_iconst (v := 0) F.1 F.2.1 dX6_partError_45 (by decide) ?_
          exact w_iret F hr hlocks hP hS dX6_partError_46 ⟨rfl, by unfold T_pe; rw [if_pos ⟨i_le c1, c2⟩, if_pos (b_t hbrr3 c4), if_neg (i_nle c5)]⟩
        · refine lv_bipush (v := (-4)) F.1 F.2.1 dX6_partError_40 (by decide) ?_
          refine lv_goto (tgt := 46) F.1 F.2.1 dX6_partError_42 (by decide) ?_
          exact w_iret F hr hlocks hP hS dX6_partError_46 ⟨rfl, by unfold T_pe; rw [if_pos ⟨i_le c1, c2⟩, if_pos (b_t hbrr3 c4), if_pos (i_le c5)]⟩
      · refine lv_bipush (v := (-2)) F.1 F.2.1 dX6_partError_25 (by decide) ?_
        exact w_iret F hr hlocks hP hS dX6_partError_27 ⟨rfl, by unfold T_pe; rw [if_pos ⟨i_le c1, c2⟩, if_neg (b_f hbrr3 c4)]⟩
    · refine lv_iconst (v := (-1)) F.1 F.2.1 dX6_partError_15 (by decide) ?_
      exact w_iret F hr hlocks hP hS dX6_partError_16 ⟨rfl, by unfold T_pe; rw [if_neg (fun q => c2 q.2)]⟩
set_option maxRecDepth 20000 in
set_option maxHeartbeats 4000000 in
/-- may it roll -/
theorem c_X6_rollError (l : Launch) (D : va_G) (Y : Nat → ClassId) (ad : Nat → Nat) (N : Nat) (hI : wI ad N) (C : Nat → va_E) (b : Nat) (hh : b + 17 < N) (f : Nat → Int32) (g : Int32) (hs : isState Y ad C b f g) (x : Int32) (hz : f 5 = 0 ∨ f 5 = 1) : Met l yX6_rollError (wm yX6_rollError cX6_rollError 2 (some .int)) { frames := 1, cells := 0, slots := 0, locals := 20 } (wPc D Y ad N [.ref (ad b), .int (x)] C) (wQi D ad N (fun r C' => C' = C ∧ r = if 1 ≤ x ∧ x ≤ 20 then (if f 5 = 1 ∧ f 11 = 0 then 0 else -5) else -2)) 0 0 (wA ad N) := by
  refine wMet RX6 rfl (by decide +kernel) (Nat.le_of_ble_eq_true rfl) (lv := [(0, .ref (ad b)), (1, .int (x))]) rfl ?_
  intro p e s m below meth c ls F hr hlocks hP hl
  have hS : va_S (wA ad N) s.heap s.heap [] := va_S.rf
  refine lv_iload_n F.1 F.2.1 dX6_rollError_0 rfl (lv_at hl 1 rfl) ?_
  refine lv_iconst (v := 1) F.1 F.2.1 dX6_rollError_1 (by decide) ?_
  refine lv_icmp_lt (tgt := 11) F.1 F.2.1 dX6_rollError_2 (by decide) (fun c1 => ?_) (fun c1 => ?_)
  · refine lv_bipush (v := (-2)) F.1 F.2.1 dX6_rollError_11 (by decide) ?_
    exact w_iret F hr hlocks hP hS dX6_rollError_13 ⟨rfl, by rw [if_neg (fun q => i_nle c1 q.1)]⟩
  · refine lv_iload_n F.1 F.2.1 dX6_rollError_5 rfl (lv_at hl 1 rfl) ?_
    refine lv_bipush (v := 20) F.1 F.2.1 dX6_rollError_6 (by decide) ?_
    refine lv_icmp_le (tgt := 14) F.1 F.2.1 dX6_rollError_8 (by decide) (fun c2 => ?_) (fun c2 => ?_)
    · refine lv_aload_n F.1 F.2.1 dX6_rollError_14 rfl (lv_at hl 0 rfl) ?_
      refine gf_X6_28 F hP (by omega) hs.1 (v := .ref (ad (b + 10))) rfl dX6_rollError_15 ?_
      refine w_calli F hP hS (c_X1_rolls l D Y ad N hI _ (b + 10) (by omega) (f 5) (f 6) (f 7) (f 8) (f 9) (f 10) (f 11) (f 12) (f 13) g hs.2.2.2.1 hz) (cwVm 0 F.2.2.2.2.1 (fun _ h => h) mw_286 mw_283 mw_284 mw_285 mw_30 rfl rfl ydX1_rolls ⟨by decide, by decide⟩) (by omega) hs.2.2.2.1 rfl rfl hl.1 rfl (Nat.le_of_ble_eq_true rfl) dX6_rollError_18 ⟨Nat.zero_le _, Nat.zero_le _⟩ (fun r C2 H locs hq hP hS => ?_)
      obtain ⟨hq1, hbrr3⟩ := hq; rw [hq1] at hP; generalize r = rr3 at hbrr3 ⊢
      refine lv_if_eq (tgt := 28) F.1 F.2.1 dX6_rollError_21 (by decide) (fun c4 => ?_) (fun c4 => ?_)
      · refine lv_bipush (v := (-5)) F.1 F.2.1 dX6_rollError_28 (by decide) ?_
        exact w_iret F hr hlocks hP hS dX6_rollError_30 ⟨rfl, by rw [if_pos ⟨i_le c1, c2⟩, if_neg (b_f hbrr3 c4)]⟩
      · refine lv_iconst (v := 0) F.1 F.2.1 dX6_rollError_24 (by decide) ?_
        refine lv_goto (tgt := 30) F.1 F.2.1 dX6_rollError_25 (by decide) ?_
        exact w_iret F hr hlocks hP hS dX6_rollError_30 ⟨rfl, by rw [if_pos ⟨i_le c1, c2⟩, if_pos (b_t hbrr3 c4)]⟩
    · refine lv_bipush (v := (-2)) F.1 F.2.1 dX6_rollError_11 (by decide) ?_
      exact w_iret F hr hlocks hP hS dX6_rollError_13 ⟨rfl, by rw [if_neg (fun q => c2 q.2)]⟩
set_option maxRecDepth 20000 in
set_option maxHeartbeats 4000000 in
/-- may it be tapped -/
theorem c_X6_tapError (l : Launch) (D : va_G) (Y : Nat → ClassId) (ad : Nat → Nat) (N : Nat) (hI : wI ad N) (C : Nat → va_E) (b : Nat) (hh : b + 17 < N) (f : Nat → Int32) (g : Int32) (hs : isState Y ad C b f g) (x : Int32) (hz : f 5 = 0 ∨ f 5 = 1) : Met l yX6_tapError (wm yX6_tapError cX6_tapError 2 (some .int)) { frames := 1, cells := 0, slots := 0, locals := 20 } (wPc D Y ad N [.ref (ad b), .int (x)] C) (wQi D ad N (fun r C' => C' = C ∧ r = if x = 0 ∨ x = 1 then (if f 5 = 1 ∧ f 11 = 0 then 0 else -5) else -2)) 0 0 (wA ad N) := by
  refine wMet RX6 rfl (by decide +kernel) (Nat.le_of_ble_eq_true rfl) (lv := [(0, .ref (ad b)), (1, .int (x))]) rfl ?_
  intro p e s m below meth c ls F hr hlocks hP hl
  have hS : va_S (wA ad N) s.heap s.heap [] := va_S.rf
  refine lv_iload_n F.1 F.2.1 dX6_tapError_0 rfl (lv_at hl 1 rfl) ?_
  refine lv_if_eq (tgt := 12) F.1 F.2.1 dX6_tapError_1 (by decide) (fun c1 => ?_) (fun c1 => ?_)
  · refine lv_aload_n F.1 F.2.1 dX6_tapError_12 rfl (lv_at hl 0 rfl) ?_
    refine gf_X6_28 F hP (by omega) hs.1 (v := .ref (ad (b + 10))) rfl dX6_tapError_13 ?_
    refine w_calli F hP hS (c_X1_rolls l D Y ad N hI _ (b + 10) (by omega) (f 5) (f 6) (f 7) (f 8) (f 9) (f 10) (f 11) (f 12) (f 13) g hs.2.2.2.1 hz) (cwVm 0 F.2.2.2.2.1 (fun _ h => h) mw_286 mw_283 mw_284 mw_285 mw_30 rfl rfl ydX1_rolls ⟨by decide, by decide⟩) (by omega) hs.2.2.2.1 rfl rfl hl.1 rfl (Nat.le_of_ble_eq_true rfl) dX6_tapError_16 ⟨Nat.zero_le _, Nat.zero_le _⟩ (fun r C2 H locs hq hP hS => ?_)
    obtain ⟨hq1, hbrr2⟩ := hq; rw [hq1] at hP; generalize r = rr2 at hbrr2 ⊢
    refine lv_if_eq (tgt := 26) F.1 F.2.1 dX6_tapError_19 (by decide) (fun c3 => ?_) (fun c3 => ?_)
    · refine lv_bipush (v := (-5)) F.1 F.2.1 dX6_tapError_26 (by decide) ?_
      exact w_iret F hr hlocks hP hS dX6_tapError_28 ⟨rfl, by rw [if_pos (Or.inl c1), if_neg (b_f hbrr2 c3)]⟩
    · refine lv_iconst (v := 0) F.1 F.2.1 dX6_tapError_22 (by decide) ?_
      refine lv_goto (tgt := 28) F.1 F.2.1 dX6_tapError_23 (by decide) ?_
      exact w_iret F hr hlocks hP hS dX6_tapError_28 ⟨rfl, by rw [if_pos (Or.inl c1), if_pos (b_t hbrr2 c3)]⟩
  · refine lv_iload_n F.1 F.2.1 dX6_tapError_4 rfl (lv_at hl 1 rfl) ?_
    refine lv_iconst (v := 1) F.1 F.2.1 dX6_tapError_5 (by decide) ?_
    refine lv_icmp_eq (tgt := 12) F.1 F.2.1 dX6_tapError_6 (by decide) (fun c4 => ?_) (fun c4 => ?_)
    · refine lv_aload_n F.1 F.2.1 dX6_tapError_12 rfl (lv_at hl 0 rfl) ?_
      refine gf_X6_28 F hP (by omega) hs.1 (v := .ref (ad (b + 10))) rfl dX6_tapError_13 ?_
      refine w_calli F hP hS (c_X1_rolls l D Y ad N hI _ (b + 10) (by omega) (f 5) (f 6) (f 7) (f 8) (f 9) (f 10) (f 11) (f 12) (f 13) g hs.2.2.2.1 hz) (cwVm 0 F.2.2.2.2.1 (fun _ h => h) mw_286 mw_283 mw_284 mw_285 mw_30 rfl rfl ydX1_rolls ⟨by decide, by decide⟩) (by omega) hs.2.2.2.1 rfl rfl hl.1 rfl (Nat.le_of_ble_eq_true rfl) dX6_tapError_16 ⟨Nat.zero_le _, Nat.zero_le _⟩ (fun r C2 H locs hq hP hS => ?_)
      obtain ⟨hq1, hbrr5⟩ := hq; rw [hq1] at hP; generalize r = rr5 at hbrr5 ⊢
      refine lv_if_eq (tgt := 26) F.1 F.2.1 dX6_tapError_19 (by decide) (fun c6 => ?_) (fun c6 => ?_)
      · refine lv_bipush (v := (-5)) F.1 F.2.1 dX6_tapError_26 (by decide) ?_
        exact w_iret F hr hlocks hP hS dX6_tapError_28 ⟨rfl, by rw [if_pos (Or.inr c4), if_neg (b_f hbrr5 c6)]⟩
      · refine lv_iconst (v := 0) F.1 F.2.1 dX6_tapError_22 (by decide) ?_
        refine lv_goto (tgt := 28) F.1 F.2.1 dX6_tapError_23 (by decide) ?_
        exact w_iret F hr hlocks hP hS dX6_tapError_28 ⟨rfl, by rw [if_pos (Or.inr c4), if_pos (b_t hbrr5 c6)]⟩
    · refine lv_bipush (v := (-2)) F.1 F.2.1 dX6_tapError_9 (by decide) ?_
      exact w_iret F hr hlocks hP hS dX6_tapError_11 ⟨rfl, by rw [if_neg (fun q => q.elim c1 c4)]⟩
set_option maxRecDepth 20000 in
set_option maxHeartbeats 4000000 in
/-- may it be pushed -/
theorem c_X6_pushError (l : Launch) (D : va_G) (Y : Nat → ClassId) (ad : Nat → Nat) (N : Nat) (hI : wI ad N) (C : Nat → va_E) (b : Nat) (hh : b + 17 < N) (f : Nat → Int32) (g : Int32) (hs : isState Y ad C b f g) (hz : f 5 = 0 ∨ f 5 = 1) : Met l yX6_pushError (wm yX6_pushError cX6_pushError 1 (some .int)) { frames := 1, cells := 0, slots := 0, locals := 20 } (wPc D Y ad N [.ref (ad b)] C) (wQi D ad N (fun r C' => C' = C ∧ r = if f 5 = 1 ∧ f 11 = 0 then 0 else -5)) 0 0 (wA ad N) := by
  refine wMet RX6 rfl (by decide +kernel) (Nat.le_of_ble_eq_true rfl) (lv := [(0, .ref (ad b))]) rfl ?_
  intro p e s m below meth c ls F hr hlocks hP hl
  have hS : va_S (wA ad N) s.heap s.heap [] := va_S.rf
  refine lv_aload_n F.1 F.2.1 dX6_pushError_0 rfl (lv_at hl 0 rfl) ?_
  refine gf_X6_28 F hP (by omega) hs.1 (v := .ref (ad (b + 10))) rfl dX6_pushError_1 ?_
  refine w_calli F hP hS (c_X1_rolls l D Y ad N hI _ (b + 10) (by omega) (f 5) (f 6) (f 7) (f 8) (f 9) (f 10) (f 11) (f 12) (f 13) g hs.2.2.2.1 hz) (cwVm 0 F.2.2.2.2.1 (fun _ h => h) mw_286 mw_283 mw_284 mw_285 mw_30 rfl rfl ydX1_rolls ⟨by decide, by decide⟩) (by omega) hs.2.2.2.1 rfl rfl hl.1 rfl (Nat.le_of_ble_eq_true rfl) dX6_pushError_4 ⟨Nat.zero_le _, Nat.zero_le _⟩ (fun r C2 H locs hq hP hS => ?_)
  obtain ⟨hq1, hbrr1⟩ := hq; rw [hq1] at hP; generalize r = rr1 at hbrr1 ⊢
  refine lv_if_eq (tgt := 14) F.1 F.2.1 dX6_pushError_7 (by decide) (fun c2 => ?_) (fun c2 => ?_)
  · refine lv_bipush (v := (-5)) F.1 F.2.1 dX6_pushError_14 (by decide) ?_
    exact w_iret F hr hlocks hP hS dX6_pushError_16 ⟨rfl, by rw [if_neg (b_f hbrr1 c2)]⟩
  · refine lv_iconst (v := 0) F.1 F.2.1 dX6_pushError_10 (by decide) ?_
    refine lv_goto (tgt := 16) F.1 F.2.1 dX6_pushError_11 (by decide) ?_
    exact w_iret F hr hlocks hP hS dX6_pushError_16 ⟨rfl, by rw [if_pos (b_t hbrr1 c2)]⟩
set_option maxRecDepth 20000 in
set_option maxHeartbeats 4000000 in
/-- a part comes or goes, and the hoop with it -/
theorem c_X6_addPart (l : Launch) (D : va_G) (Y : Nat → ClassId) (ad : Nat → Nat) (N : Nat) (hI : wI ad N) (C : Nat → va_E) (b : Nat) (hh : b + 17 < N) (f : Nat → Int32) (g : Int32) (hs : isState Y ad C b f g) (kp n : Nat) (kd v : Int32) (hk : kp ≤ n) (hn : n < 20) (h4 : f 4 = nI n) : Met l yX6_addPart (wm yX6_addPart cX6_addPart 4 (some .int)) { frames := 2, cells := 0, slots := 0, locals := 48 } (wPc D Y ad N [.ref (ad b), .int (nI kp), .int (kd), .int (v)] C) (wQi D ad N (fun r C' => r = T_insert kp kd v f 4 ∧ isState Y ad C' b (T_insert kp kd v f) g ∧ ∀ j, j < b ∨ b + 18 ≤ j → C' j = C j)) 0 0 (wA ad N) := by
  refine wMet RX6 rfl (by decide +kernel) (Nat.le_of_ble_eq_true rfl) (lv := [(0, .ref (ad b)), (1, .int (nI kp)), (2, .int (kd)), (3, .int (v))]) rfl ?_
  intro p e s m below meth c ls F hr hlocks hP hl
  have hS : va_S (wA ad N) s.heap s.heap [] := va_S.rf
  refine lv_aload_n F.1 F.2.1 dX6_addPart_0 rfl (lv_at hl 0 rfl) ?_
  refine gf_X6_21 F hP (by omega) hs.1 (v := .ref (ad (b + 3))) rfl dX6_addPart_1 ?_
  refine lv_iload_n F.1 F.2.1 dX6_addPart_4 rfl (lv_at hl 1 rfl) ?_
  refine lv_iload_n F.1 F.2.1 dX6_addPart_5 rfl (lv_at hl 2 rfl) ?_
  refine lv_iload_n F.1 F.2.1 dX6_addPart_6 rfl (lv_at hl 3 rfl) ?_
  refine w_callv F hP hS (c_X5_insert l D Y ad N hI _ (b + 3) (by omega) f hs.2.2.1 kp n kd v hk hn h4) (cwVm 3 F.2.2.2.2.1 (fun _ h => h) mw_207 mw_204 mw_205 mw_206 mw_42 rfl rfl ydX5_insert ⟨by decide, by decide⟩) (by omega) hs.2.2.1.1 rfl rfl hl.1 rfl (Nat.le_of_ble_eq_true rfl) dX6_addPart_7 ⟨Nat.zero_le _, Nat.zero_le _⟩ (fun K1 H locs hq1 hP hS => ?_)
  have ob1 : K1 b = stO ad b (f 14) (f 19) := (hq1.2 _ (by omega)).trans hs.1
  have se1 : isSett Y ad K1 (b + 1) f := isSett_same hs.2.1 (fun j a z => hq1.2 j (by omega))
  have st1 : isStair Y ad K1 (b + 3) (T_insert kp kd v f) := hq1.1
  have hp1 : K1 (b + 10) = hpR f g := (hq1.2 _ (by omega)).trans hs.2.2.2.1
  have lg1 : isLog Y ad K1 (b + 11) f := isLog_same hs.2.2.2.2.1 (fun j a z => hq1.2 j (by omega))
  have en1 : isEnd Y K1 (b + 17) f := isEnd_same hs.2.2.2.2.2 (hq1.2 _ (by omega))
  have fr1 : ∀ j, j < b ∨ b + 18 ≤ j → K1 j = C j := fun j hj => (hq1.2 j (by omega)).trans ((fun _ _ => rfl) j hj)
  refine lv_aload_n F.1 F.2.1 dX6_addPart_10 rfl (lv_at hl 0 rfl) ?_
  refine gf_X6_28 F hP (by omega) ob1 (v := .ref (ad (b + 10))) rfl dX6_addPart_11 ?_
  refine w_callv F hP hS (c_X1_vanish l D Y ad N hI _ (b + 10) (by omega) (f 5) (f 6) (f 7) (f 8) (f 9) (f 10) (f 11) (f 12) (f 13) g hp1) (cwVm 0 F.2.2.2.2.1 (fun _ h => h) mw_211 mw_208 mw_209 mw_210 mw_30 rfl rfl ydX1_vanish ⟨by decide, by decide⟩) (by omega) hp1 rfl rfl hl.1 rfl (Nat.le_of_ble_eq_true rfl) dX6_addPart_14 ⟨Nat.zero_le _, Nat.zero_le _⟩ (fun K2 H locs hq2 hP hS => ?_)
  have sf2 : ∀ j, j ≠ b + 10 → K2 j = K1 j := fun j hj => by rw [hq2, va_up_ne _ _ hj]
  have ob2 : K2 b = stO ad b (f 14) (f 19) := (sf2 _ (by omega)).trans ob1
  have se2 : isSett Y ad K2 (b + 1) f := isSett_same se1 (fun j a z => sf2 j (by omega))
  have st2 : isStair Y ad K2 (b + 3) (T_insert kp kd v f) := isStair_same st1 (fun j a z => sf2 j (by omega))
  have hp2 : K2 (b + 10) = hpR (upd f 5 0) g := by rw [hq2]; exact va_up_self _ _ _
  have lg2 : isLog Y ad K2 (b + 11) f := isLog_same lg1 (fun j a z => sf2 j (by omega))
  have en2 : isEnd Y K2 (b + 17) f := isEnd_same en1 (sf2 _ (by omega))
  have fr2 : ∀ j, j < b ∨ b + 18 ≤ j → K2 j = C j := fun j hj => (sf2 j (by omega)).trans (fr1 j hj)
  refine lv_aload_n F.1 F.2.1 dX6_addPart_17 rfl (lv_at hl 0 rfl) ?_
  refine gf_X6_21 F hP (by omega) ob2 (v := .ref (ad (b + 3))) rfl dX6_addPart_18 ?_
  refine gf_X6_69 F hP (by omega) st2.1 (v := .int ((T_insert kp kd v f) 4)) rfl dX6_addPart_21 ?_
  exact w_iret F hr hlocks hP hS dX6_addPart_24 ⟨rfl, (isState_mk (F := T_insert kp kd v f) ob2 (ins_out (by decide) (by decide) (by decide)) (ins_out (by decide) (by decide) (by decide)) se2 (fun q hq => ins_out (by omega) (by omega) (by omega)) st2 rfl (fun q hq _ => rfl) hp2 (fun q hq hq2 => ins_hp hq hq2) lg2 (fun q hq hq2 => ins_out (by omega) (by omega) (by omega)) en2 (fun q hq hq2 => ins_out (by omega) (by omega) (by omega))), fr2⟩
set_option maxRecDepth 20000 in
set_option maxHeartbeats 4000000 in
/-- a part comes or goes, and the hoop with it -/
theorem c_X6_removePart (l : Launch) (D : va_G) (Y : Nat → ClassId) (ad : Nat → Nat) (N : Nat) (hI : wI ad N) (C : Nat → va_E) (b : Nat) (hh : b + 17 < N) (f : Nat → Int32) (g : Int32) (hs : isState Y ad C b f g) (kp n : Nat) (hk : kp < n) (hn : n ≤ 20) (h4 : f 4 = nI n) : Met l yX6_removePart (wm yX6_removePart cX6_removePart 2 (some .int)) { frames := 2, cells := 0, slots := 0, locals := 46 } (wPc D Y ad N [.ref (ad b), .int (nI kp)] C) (wQi D ad N (fun r C' => r = T_remove kp f 4 ∧ isState Y ad C' b (T_remove kp f) g ∧ ∀ j, j < b ∨ b + 18 ≤ j → C' j = C j)) 0 0 (wA ad N) := by
  refine wMet RX6 rfl (by decide +kernel) (Nat.le_of_ble_eq_true rfl) (lv := [(0, .ref (ad b)), (1, .int (nI kp))]) rfl ?_
  intro p e s m below meth c ls F hr hlocks hP hl
  have hS : va_S (wA ad N) s.heap s.heap [] := va_S.rf
  refine lv_aload_n F.1 F.2.1 dX6_removePart_0 rfl (lv_at hl 0 rfl) ?_
  refine gf_X6_21 F hP (by omega) hs.1 (v := .ref (ad (b + 3))) rfl dX6_removePart_1 ?_
  refine lv_iload_n F.1 F.2.1 dX6_removePart_4 rfl (lv_at hl 1 rfl) ?_
  refine w_callv F hP hS (c_X5_remove l D Y ad N hI _ (b + 3) (by omega) f hs.2.2.1 kp n hk hn h4) (cwVm 1 F.2.2.2.2.1 (fun _ h => h) mw_242 mw_239 mw_240 mw_241 mw_42 rfl rfl ydX5_remove ⟨by decide, by decide⟩) (by omega) hs.2.2.1.1 rfl rfl hl.1 rfl (Nat.le_of_ble_eq_true rfl) dX6_removePart_5 ⟨Nat.zero_le _, Nat.zero_le _⟩ (fun K1 H locs hq1 hP hS => ?_)
  have ob1 : K1 b = stO ad b (f 14) (f 19) := (hq1.2 _ (by omega)).trans hs.1
  have se1 : isSett Y ad K1 (b + 1) f := isSett_same hs.2.1 (fun j a z => hq1.2 j (by omega))
  have st1 : isStair Y ad K1 (b + 3) (T_remove kp f) := hq1.1
  have hp1 : K1 (b + 10) = hpR f g := (hq1.2 _ (by omega)).trans hs.2.2.2.1
  have lg1 : isLog Y ad K1 (b + 11) f := isLog_same hs.2.2.2.2.1 (fun j a z => hq1.2 j (by omega))
  have en1 : isEnd Y K1 (b + 17) f := isEnd_same hs.2.2.2.2.2 (hq1.2 _ (by omega))
  have fr1 : ∀ j, j < b ∨ b + 18 ≤ j → K1 j = C j := fun j hj => (hq1.2 j (by omega)).trans ((fun _ _ => rfl) j hj)
  refine lv_aload_n F.1 F.2.1 dX6_removePart_8 rfl (lv_at hl 0 rfl) ?_
  refine gf_X6_28 F hP (by omega) ob1 (v := .ref (ad (b + 10))) rfl dX6_removePart_9 ?_
  refine w_callv F hP hS (c_X1_vanish l D Y ad N hI _ (b + 10) (by omega) (f 5) (f 6) (f 7) (f 8) (f 9) (f 10) (f 11) (f 12) (f 13) g hp1) (cwVm 0 F.2.2.2.2.1 (fun _ h => h) mw_211 mw_208 mw_209 mw_210 mw_30 rfl rfl ydX1_vanish ⟨by decide, by decide⟩) (by omega) hp1 rfl rfl hl.1 rfl (Nat.le_of_ble_eq_true rfl) dX6_removePart_12 ⟨Nat.zero_le _, Nat.zero_le _⟩ (fun K2 H locs hq2 hP hS => ?_)
  have sf2 : ∀ j, j ≠ b + 10 → K2 j = K1 j := fun j hj => by rw [hq2, va_up_ne _ _ hj]
  have ob2 : K2 b = stO ad b (f 14) (f 19) := (sf2 _ (by omega)).trans ob1
  have se2 : isSett Y ad K2 (b + 1) f := isSett_same se1 (fun j a z => sf2 j (by omega))
  have st2 : isStair Y ad K2 (b + 3) (T_remove kp f) := isStair_same st1 (fun j a z => sf2 j (by omega))
  have hp2 : K2 (b + 10) = hpR (upd f 5 0) g := by rw [hq2]; exact va_up_self _ _ _
  have lg2 : isLog Y ad K2 (b + 11) f := isLog_same lg1 (fun j a z => sf2 j (by omega))
  have en2 : isEnd Y K2 (b + 17) f := isEnd_same en1 (sf2 _ (by omega))
  have fr2 : ∀ j, j < b ∨ b + 18 ≤ j → K2 j = C j := fun j hj => (sf2 j (by omega)).trans (fr1 j hj)
  refine lv_aload_n F.1 F.2.1 dX6_removePart_15 rfl (lv_at hl 0 rfl) ?_
  refine gf_X6_21 F hP (by omega) ob2 (v := .ref (ad (b + 3))) rfl dX6_removePart_16 ?_
  refine gf_X6_69 F hP (by omega) st2.1 (v := .int ((T_remove kp f) 4)) rfl dX6_removePart_19 ?_
  exact w_iret F hr hlocks hP hS dX6_removePart_22 ⟨rfl, (isState_mk (F := T_remove kp f) ob2 (rem_out (by decide) (by decide) (by decide)) (rem_out (by decide) (by decide) (by decide)) se2 (fun q hq => rem_out (by omega) (by omega) (by omega)) st2 rfl (fun q hq _ => rfl) hp2 (fun q hq hq2 => rem_hp hq hq2) lg2 (fun q hq hq2 => rem_out (by omega) (by omega) (by omega)) en2 (fun q hq hq2 => rem_out (by omega) (by omega) (by omega))), fr2⟩
def T_run (x : Int32) (f : Nat → Int32) : Nat → Int32 := upd (T_begin x f) 14 (f 14 + 1)
theorem begin_out {x : Int32} {f : Nat → Int32} {q : Nat} (h : q < 5 ∨ 13 < q) : T_begin x f q = f q := by
  unfold T_begin
  rw [upd_n (by omega), upd_n (by omega), upd_n (by omega), upd_n (by omega), upd_n (by omega), upd_n (by omega), upd_n (by omega), upd_n (by omega), upd_n (by omega)]
theorem run_out {x : Int32} {f : Nat → Int32} {q : Nat} (h : q < 5 ∨ 13 < q) (h14 : q ≠ 14) : T_run x f q = f q := by
  unfold T_run
  rw [upd_n h14, begin_out h]
theorem begin_hp {x : Int32} {f : Nat → Int32} : hpV 1 x 10 0 0 0 0 0 0 0 = hpR (T_begin x f) 0 := by simp [T_begin, upd, hpR, hpV]
def T_tapp (x : Int32) (f : Nat → Int32) : Nat → Int32 := upd (T_tap x f) 19 (f 19 + 1)
theorem tap_out {x : Int32} {f : Nat → Int32} {q : Nat} (h : q ≠ 8 ∧ q ≠ 9 ∧ q ≠ 12) : T_tap x f q = f q := by
  unfold T_tap
  rw [upd_n h.2.2, upd_n h.2.1, upd_n h.1]
theorem tapp_out {x : Int32} {f : Nat → Int32} {q : Nat} (h : q ≠ 8 ∧ q ≠ 9 ∧ q ≠ 12) (h19 : q ≠ 19) : T_tapp x f q = f q := by
  unfold T_tapp
  rw [upd_n h19, tap_out h]
theorem tap_hp {x g : Int32} {f : Nat → Int32} : hpV (f 5) (f 6) (f 7) (f 8 + (if x = 0 then f 3 else -f 3)) (mn99 (f 9 + 2)) (f 10) (f 11) (f 12 + 1) (f 13) g = hpR (T_tap x f) g := by simp [T_tap, upd, hpR, hpV]
theorem push_hp {g : Int32} {f : Nat → Int32} : hpV (f 5) (f 6) (mn99 (f 7 + 5)) (f 8) (f 9) (f 10) (f 11) (f 12) (f 13 + 1) g = hpR (T_push f) g := by simp [T_push, upd, hpR, hpV]
theorem push_out {f : Nat → Int32} {q : Nat} (h : q ≠ 7 ∧ q ≠ 13) : T_push f q = f q := by
  unfold T_push
  rw [upd_n h.2, upd_n h.1]
set_option maxRecDepth 20000 in
set_option maxHeartbeats 4000000 in
/-- a run begins -/
theorem c_X6_beginRun (l : Launch) (D : va_G) (Y : Nat → ClassId) (ad : Nat → Nat) (N : Nat) (hI : wI ad N) (C : Nat → va_E) (b : Nat) (hh : b + 17 < N) (f : Nat → Int32) (g : Int32) (hs : isState Y ad C b f g) (x : Int32) : Met l yX6_beginRun (wm yX6_beginRun cX6_beginRun 2 (some .int)) { frames := 1, cells := 0, slots := 0, locals := 21 } (wPc D Y ad N [.ref (ad b), .int (x)] C) (wQi D ad N (fun r C' => r = f 14 + 1 ∧ isState Y ad C' b (T_run x f) 0 ∧ ∀ j, j < b ∨ b + 18 ≤ j → C' j = C j)) 0 0 (wA ad N) := by
  refine wMet RX6 rfl (by decide +kernel) (Nat.le_of_ble_eq_true rfl) (lv := [(0, .ref (ad b)), (1, .int (x))]) rfl ?_
  intro p e s m below meth c ls F hr hlocks hP hl
  have hS : va_S (wA ad N) s.heap s.heap [] := va_S.rf
  refine lv_aload_n F.1 F.2.1 dX6_beginRun_0 rfl (lv_at hl 0 rfl) ?_
  refine gf_X6_28 F hP (by omega) hs.1 (v := .ref (ad (b + 10))) rfl dX6_beginRun_1 ?_
  refine lv_iload_n F.1 F.2.1 dX6_beginRun_4 rfl (lv_at hl 1 rfl) ?_
  refine w_callv F hP hS (c_X1_begin l D Y ad N hI _ (b + 10) (by omega) (f 5) (f 6) (f 7) (f 8) (f 9) (f 10) (f 11) (f 12) (f 13) g hs.2.2.2.1 x) (cwVm 1 F.2.2.2.2.1 (fun _ h => h) mw_266 mw_263 mw_264 mw_265 mw_30 rfl rfl ydX1_begin ⟨by decide, by decide⟩) (by omega) hs.2.2.2.1 rfl rfl hl.1 rfl (Nat.le_of_ble_eq_true rfl) dX6_beginRun_5 ⟨Nat.zero_le _, Nat.zero_le _⟩ (fun K1 H locs hq1 hP hS => ?_)
  have sf1 : ∀ j, j ≠ b + 10 → K1 j = C j := fun j hj => by rw [hq1, va_up_ne _ _ hj]
  have ob1 : K1 b = stO ad b (f 14) (f 19) := (sf1 _ (by omega)).trans hs.1
  have se1 : isSett Y ad K1 (b + 1) f := isSett_same hs.2.1 (fun j a z => sf1 j (by omega))
  have st1 : isStair Y ad K1 (b + 3) f := isStair_same hs.2.2.1 (fun j a z => sf1 j (by omega))
  have hp1 : K1 (b + 10) = hpR (T_begin x f) 0 := by rw [hq1]; exact (va_up_self _ _ _).trans begin_hp
  have lg1 : isLog Y ad K1 (b + 11) f := isLog_same hs.2.2.2.2.1 (fun j a z => sf1 j (by omega))
  have en1 : isEnd Y K1 (b + 17) f := isEnd_same hs.2.2.2.2.2 (sf1 _ (by omega))
  have fr1 : ∀ j, j < b ∨ b + 18 ≤ j → K1 j = C j := fun j hj => (sf1 j (by omega)).trans ((fun _ _ => rfl) j hj)
  refine lv_aload_n F.1 F.2.1 dX6_beginRun_8 rfl (lv_at hl 0 rfl) ?_
  refine lv_dup F.1 F.2.1 dX6_beginRun_9 rfl ?_
  refine gf_X6_43 F hP (by omega) ob1 (v := .int (f 14)) rfl dX6_beginRun_10 ?_
  refine lv_iconst (v := 1) F.1 F.2.1 dX6_beginRun_13 (by decide) ?_
  refine lv_iadd F.1 F.2.1 dX6_beginRun_14 ?_
  obtain ⟨K2, eK2⟩ : ∃ z, z = va_up K1 b (stO ad b ((f 14) + 1) (f 19)) := ⟨_, rfl⟩
  refine pf_X6_43 F hI hP hS (by omega) ob1 (Nat.le_of_ble_eq_true rfl) (C1 := K2) (fun j => (congrFun eK2 j).symm) dX6_beginRun_15 (fun H locs hP hS => ?_)
  have sf2 : ∀ j, j ≠ b → K2 j = K1 j := fun j hj => by rw [eK2, va_up_ne _ _ hj]
  have ob2 : K2 b = stO ad b ((f 14) + 1) (f 19) := by rw [eK2]; exact va_up_self _ _ _
  have se2 : isSett Y ad K2 (b + 1) f := isSett_same se1 (fun j a z => sf2 j (by omega))
  have st2 : isStair Y ad K2 (b + 3) f := isStair_same st1 (fun j a z => sf2 j (by omega))
  have hp2 : K2 (b + 10) = hpR (T_begin x f) 0 := (sf2 _ (by omega)).trans hp1
  have lg2 : isLog Y ad K2 (b + 11) f := isLog_same lg1 (fun j a z => sf2 j (by omega))
  have en2 : isEnd Y K2 (b + 17) f := isEnd_same en1 (sf2 _ (by omega))
  have fr2 : ∀ j, j < b ∨ b + 18 ≤ j → K2 j = C j := fun j hj => (sf2 j (by omega)).trans (fr1 j hj)
  refine lv_aload_n F.1 F.2.1 dX6_beginRun_18 rfl (lv_at hl 0 rfl) ?_
  refine gf_X6_43 F hP (by omega) ob2 (v := .int ((f 14) + 1)) rfl dX6_beginRun_19 ?_
  exact w_iret F hr hlocks hP hS dX6_beginRun_22 ⟨rfl, (isState_mk (F := T_run x f) ob2 upd_s (run_out (by decide) (by decide)) se2 (fun q hq => run_out (by omega) (by omega)) st2 (run_out (by decide) (by decide)) (fun q hq _ => run_out (by omega) (by omega)) hp2 (fun q hq hq2 => upd_n (by omega)) lg2 (fun q hq _ => run_out (by omega) (by omega)) en2 (fun q hq _ => run_out (by omega) (by omega))), fr2⟩
set_option maxRecDepth 20000 in
set_option maxHeartbeats 4000000 in
/-- a tap -/
theorem c_X6_tapFrom (l : Launch) (D : va_G) (Y : Nat → ClassId) (ad : Nat → Nat) (N : Nat) (hI : wI ad N) (C : Nat → va_E) (b : Nat) (hh : b + 17 < N) (f : Nat → Int32) (g : Int32) (hs : isState Y ad C b f g) (x : Int32) : Met l yX6_tapFrom (wm yX6_tapFrom cX6_tapFrom 2 (some .int)) { frames := 3, cells := 0, slots := 0, locals := 60 } (wPc D Y ad N [.ref (ad b), .int (x)] C) (wQi D ad N (fun r C' => r = T_tapp x f 8 + 500 ∧ isState Y ad C' b (T_tapp x f) g ∧ ∀ j, j < b ∨ b + 18 ≤ j → C' j = C j)) 0 0 (wA ad N) := by
  refine wMet RX6 rfl (by decide +kernel) (Nat.le_of_ble_eq_true rfl) (lv := [(0, .ref (ad b)), (1, .int (x))]) rfl ?_
  intro p e s m below meth c ls F hr hlocks hP hl
  have hS : va_S (wA ad N) s.heap s.heap [] := va_S.rf
  refine lv_aload_n F.1 F.2.1 dX6_tapFrom_0 rfl (lv_at hl 0 rfl) ?_
  refine gf_X6_28 F hP (by omega) hs.1 (v := .ref (ad (b + 10))) rfl dX6_tapFrom_1 ?_
  refine lv_iload_n F.1 F.2.1 dX6_tapFrom_4 rfl (lv_at hl 1 rfl) ?_
  refine lv_aload_n F.1 F.2.1 dX6_tapFrom_5 rfl (lv_at hl 0 rfl) ?_
  refine gf_X6_12 F hP (by omega) hs.1 (v := .ref (ad (b + 1))) rfl dX6_tapFrom_6 ?_
  refine lv_iconst (v := 3) F.1 F.2.1 dX6_tapFrom_9 (by decide) ?_
  refine w_calli F hP hS (c_X4_value l D Y ad N hI _ (b + 1) (by omega) f hs.2.1 3 (by decide)) (cwVm 1 F.2.2.2.2.1 (fun _ h => h) mw_172 mw_405 mw_170 mw_171 mw_38 rfl rfl ydX4_value ⟨by decide, by decide⟩) (by omega) hs.2.1.1 rfl rfl hl.1 rfl (Nat.le_of_ble_eq_true rfl) dX6_tapFrom_10 ⟨Nat.zero_le _, Nat.zero_le _⟩ (fun r C2 H locs hq hP hS => ?_)
  obtain ⟨hq1, hq2⟩ := hq; rw [hq1] at hP
  subst hq2
  refine w_callv F hP hS (c_X1_takeTap l D Y ad N hI _ (b + 10) (by omega) (f 5) (f 6) (f 7) (f 8) (f 9) (f 10) (f 11) (f 12) (f 13) g hs.2.2.2.1 x (f 3)) (cwVm 2 F.2.2.2.2.1 (fun _ h => h) mw_409 mw_406 mw_407 mw_408 mw_30 rfl rfl ydX1_takeTap ⟨by decide, by decide⟩) (by omega) hs.2.2.2.1 rfl rfl hl.1 rfl (Nat.le_of_ble_eq_true rfl) dX6_tapFrom_13 ⟨Nat.zero_le _, Nat.zero_le _⟩ (fun K1 H locs hq1 hP hS => ?_)
  have sf1 : ∀ j, j ≠ b + 10 → K1 j = C j := fun j hj => by rw [hq1, va_up_ne _ _ hj]
  have ob1 : K1 b = stO ad b (f 14) (f 19) := (sf1 _ (by omega)).trans hs.1
  have se1 : isSett Y ad K1 (b + 1) f := isSett_same hs.2.1 (fun j a z => sf1 j (by omega))
  have st1 : isStair Y ad K1 (b + 3) f := isStair_same hs.2.2.1 (fun j a z => sf1 j (by omega))
  have hp1 : K1 (b + 10) = hpR (T_tap x f) g := by rw [hq1]; exact (va_up_self _ _ _).trans tap_hp
  have lg1 : isLog Y ad K1 (b + 11) f := isLog_same hs.2.2.2.2.1 (fun j a z => sf1 j (by omega))
  have en1 : isEnd Y K1 (b + 17) f := isEnd_same hs.2.2.2.2.2 (sf1 _ (by omega))
  have fr1 : ∀ j, j < b ∨ b + 18 ≤ j → K1 j = C j := fun j hj => (sf1 j (by omega)).trans ((fun _ _ => rfl) j hj)
  refine lv_aload_n F.1 F.2.1 dX6_tapFrom_16 rfl (lv_at hl 0 rfl) ?_
  refine lv_dup F.1 F.2.1 dX6_tapFrom_17 rfl ?_
  refine gf_X6_47 F hP (by omega) ob1 (v := .int (f 19)) rfl dX6_tapFrom_18 ?_
  refine lv_iconst (v := 1) F.1 F.2.1 dX6_tapFrom_21 (by decide) ?_
  refine lv_iadd F.1 F.2.1 dX6_tapFrom_22 ?_
  obtain ⟨K2, eK2⟩ : ∃ z, z = va_up K1 b (stO ad b (f 14) ((f 19) + 1)) := ⟨_, rfl⟩
  refine pf_X6_47 F hI hP hS (by omega) ob1 (Nat.le_of_ble_eq_true rfl) (C1 := K2) (fun j => (congrFun eK2 j).symm) dX6_tapFrom_23 (fun H locs hP hS => ?_)
  have sf2 : ∀ j, j ≠ b → K2 j = K1 j := fun j hj => by rw [eK2, va_up_ne _ _ hj]
  have ob2 : K2 b = stO ad b (f 14) ((f 19) + 1) := by rw [eK2]; exact va_up_self _ _ _
  have se2 : isSett Y ad K2 (b + 1) f := isSett_same se1 (fun j a z => sf2 j (by omega))
  have st2 : isStair Y ad K2 (b + 3) f := isStair_same st1 (fun j a z => sf2 j (by omega))
  have hp2 : K2 (b + 10) = hpR (T_tap x f) g := (sf2 _ (by omega)).trans hp1
  have lg2 : isLog Y ad K2 (b + 11) f := isLog_same lg1 (fun j a z => sf2 j (by omega))
  have en2 : isEnd Y K2 (b + 17) f := isEnd_same en1 (sf2 _ (by omega))
  have fr2 : ∀ j, j < b ∨ b + 18 ≤ j → K2 j = C j := fun j hj => (sf2 j (by omega)).trans (fr1 j hj)
  refine lv_aload_n F.1 F.2.1 dX6_tapFrom_26 rfl (lv_at hl 0 rfl) ?_
  refine gf_X6_28 F hP (by omega) ob2 (v := .ref (ad (b + 10))) rfl dX6_tapFrom_27 ?_
  refine gf_X6_120 F hP (by omega) hp2 (v := .int ((T_tap x f) 8)) rfl dX6_tapFrom_30 ?_
  refine lv_sipush (v := 500) F.1 F.2.1 dX6_tapFrom_33 (by decide) ?_
  refine lv_iadd F.1 F.2.1 dX6_tapFrom_36 ?_
  exact w_iret F hr hlocks hP hS dX6_tapFrom_37 ⟨by unfold T_tapp; rw [upd_n (by decide)], (isState_mk (F := T_tapp x f) ob2 (tapp_out (by decide) (by decide)) upd_s se2 (fun q hq => tapp_out (by omega) (by omega)) st2 (tapp_out (by decide) (by decide)) (fun q hq _ => tapp_out (by omega) (by omega)) hp2 (fun q hq hq2 => upd_n (by omega)) lg2 (fun q hq _ => tapp_out (by omega) (by omega)) en2 (fun q hq _ => tapp_out (by omega) (by omega))), fr2⟩
set_option maxRecDepth 20000 in
set_option maxHeartbeats 4000000 in
/-- a push -/
theorem c_X6_pushOn (l : Launch) (D : va_G) (Y : Nat → ClassId) (ad : Nat → Nat) (N : Nat) (hI : wI ad N) (C : Nat → va_E) (b : Nat) (hh : b + 17 < N) (f : Nat → Int32) (g : Int32) (hs : isState Y ad C b f g) : Met l yX6_pushOn (wm yX6_pushOn cX6_pushOn 1 (some .int)) { frames := 3, cells := 0, slots := 0, locals := 58 } (wPc D Y ad N [.ref (ad b)] C) (wQi D ad N (fun r C' => r = T_push f 7 ∧ isState Y ad C' b (T_push f) g ∧ ∀ j, j < b ∨ b + 18 ≤ j → C' j = C j)) 0 0 (wA ad N) := by
  refine wMet RX6 rfl (by decide +kernel) (Nat.le_of_ble_eq_true rfl) (lv := [(0, .ref (ad b))]) rfl ?_
  intro p e s m below meth c ls F hr hlocks hP hl
  have hS : va_S (wA ad N) s.heap s.heap [] := va_S.rf
  refine lv_aload_n F.1 F.2.1 dX6_pushOn_0 rfl (lv_at hl 0 rfl) ?_
  refine gf_X6_28 F hP (by omega) hs.1 (v := .ref (ad (b + 10))) rfl dX6_pushOn_1 ?_
  refine w_callv F hP hS (c_X1_takePush l D Y ad N hI _ (b + 10) (by omega) (f 5) (f 6) (f 7) (f 8) (f 9) (f 10) (f 11) (f 12) (f 13) g hs.2.2.2.1) (cwVm 0 F.2.2.2.2.1 (fun _ h => h) mw_433 mw_430 mw_431 mw_432 mw_30 rfl rfl ydX1_takePush ⟨by decide, by decide⟩) (by omega) hs.2.2.2.1 rfl rfl hl.1 rfl (Nat.le_of_ble_eq_true rfl) dX6_pushOn_4 ⟨Nat.zero_le _, Nat.zero_le _⟩ (fun K1 H locs hq1 hP hS => ?_)
  have sf1 : ∀ j, j ≠ b + 10 → K1 j = C j := fun j hj => by rw [hq1, va_up_ne _ _ hj]
  have ob1 : K1 b = stO ad b (f 14) (f 19) := (sf1 _ (by omega)).trans hs.1
  have se1 : isSett Y ad K1 (b + 1) f := isSett_same hs.2.1 (fun j a z => sf1 j (by omega))
  have st1 : isStair Y ad K1 (b + 3) f := isStair_same hs.2.2.1 (fun j a z => sf1 j (by omega))
  have hp1 : K1 (b + 10) = hpR (T_push f) g := by rw [hq1]; exact (va_up_self _ _ _).trans push_hp
  have lg1 : isLog Y ad K1 (b + 11) f := isLog_same hs.2.2.2.2.1 (fun j a z => sf1 j (by omega))
  have en1 : isEnd Y K1 (b + 17) f := isEnd_same hs.2.2.2.2.2 (sf1 _ (by omega))
  have fr1 : ∀ j, j < b ∨ b + 18 ≤ j → K1 j = C j := fun j hj => (sf1 j (by omega)).trans ((fun _ _ => rfl) j hj)
  refine lv_aload_n F.1 F.2.1 dX6_pushOn_7 rfl (lv_at hl 0 rfl) ?_
  refine gf_X6_28 F hP (by omega) ob1 (v := .ref (ad (b + 10))) rfl dX6_pushOn_8 ?_
  refine gf_X6_126 F hP (by omega) hp1 (v := .int ((T_push f) 7)) rfl dX6_pushOn_11 ?_
  exact w_iret F hr hlocks hP hS dX6_pushOn_14 ⟨rfl, (isState_mk (F := T_push f) ob1 (push_out (by decide)) (push_out (by decide)) se1 (fun q hq => push_out (by omega)) st1 (push_out (by decide)) (fun q hq _ => push_out (by omega)) hp1 (fun q hq _ => rfl) lg1 (fun q hq _ => push_out (by omega)) en1 (fun q hq _ => push_out (by omega))), fr1⟩
end
