theorem StI.s0 {I : Nat → Nat → Int32} (h : StI I) : I 1000000 0 = iI 0 := h 0 (by omega) 0
theorem StI.s1 {I : Nat → Nat → Int32} (h : StI I) : I 1000000 1 = iI 2 := h 0 (by omega) 1
theorem StI.s2 {I : Nat → Nat → Int32} (h : StI I) : I 1000000 2 = iI 4 := h 0 (by omega) 2
theorem StI.s3 {I : Nat → Nat → Int32} (h : StI I) : I 1000000 3 = iI 5 := h 0 (by omega) 3
theorem StI.s4 {I : Nat → Nat → Int32} (h : StI I) : I 1000000 4 = iI 7 := h 0 (by omega) 4
theorem StI.s5 {I : Nat → Nat → Int32} (h : StI I) : I 1000000 5 = iI 9 := h 0 (by omega) 5
theorem StI.s6 {I : Nat → Nat → Int32} (h : StI I) : I 1000000 6 = iI 11 := h 0 (by omega) 6
theorem StI.f0 {I : Nat → Nat → Int32} (h : StI I) : I 1000001 0 = iI 0 := h 1 (by omega) 0
theorem StI.f1 {I : Nat → Nat → Int32} (h : StI I) : I 1000001 1 = iI 16 := h 1 (by omega) 1
theorem StI.f2 {I : Nat → Nat → Int32} (h : StI I) : I 1000001 2 = iI 7 := h 1 (by omega) 2
theorem StI.m0 {I : Nat → Nat → Int32} (h : StI I) : I 1000002 0 = iI 0 := h 2 (by omega) 0
theorem StI.m1 {I : Nat → Nat → Int32} (h : StI I) : I 1000002 1 = iI 7 := h 2 (by omega) 1
theorem StI.m2 {I : Nat → Nat → Int32} (h : StI I) : I 1000002 2 = iI 1 := h 2 (by omega) 2
theorem StI.g0 {I : Nat → Nat → Int32} (h : StI I) : I 1000003 0 = iI 11 := h 3 (by omega) 0
theorem StI.g1 {I : Nat → Nat → Int32} (h : StI I) : I 1000003 1 = iI 24 := h 3 (by omega) 1
theorem StI.g2 {I : Nat → Nat → Int32} (h : StI I) : I 1000003 2 = iI 12 := h 3 (by omega) 2
theorem StI.l0 {I : Nat → Nat → Int32} (h : StI I) : I 1000004 0 = iI 36 := h 4 (by omega) 0
theorem StI.l1 {I : Nat → Nat → Int32} (h : StI I) : I 1000004 1 = iI 48 := h 4 (by omega) 1
theorem StI.l2 {I : Nat → Nat → Int32} (h : StI I) : I 1000004 2 = iI 53 := h 4 (by omega) 2
theorem StI.l3 {I : Nat → Nat → Int32} (h : StI I) : I 1000004 3 = iI 58 := h 4 (by omega) 3
theorem StI.h0 {I : Nat → Nat → Int32} (h : StI I) : I 1000005 0 = iI 59 := h 5 (by omega) 0
theorem StI.h1 {I : Nat → Nat → Int32} (h : StI I) : I 1000005 1 = iI 67 := h 5 (by omega) 1
theorem StI.h2 {I : Nat → Nat → Int32} (h : StI I) : I 1000005 2 = iI 74 := h 5 (by omega) 2
theorem StI.h3 {I : Nat → Nat → Int32} (h : StI I) : I 1000005 3 = iI 79 := h 5 (by omega) 3
theorem zI_dt {p : Prop} {d : Decidable p} (h : p) : zI (decide p) = iI 1 := by rw [decide_eq_true h]; rfl
theorem zI_df {p : Prop} {d : Decidable p} (h : ¬ p) : zI (decide p) = iI 0 := by rw [decide_eq_false h]; rfl
section PC
variable {L t : Nat} {σ : Nat → Nat} {I : Nat → Nat → Int32} {S : Co} {Q : Option Value → fb_H → Prop} {c : Int} {n : Nat}
/-- size -/
theorem c25 (ht : isp t) (hr : RepP I t S) : ev_c 25 [.ref t] (hp L σ I) Q = Q (some (.int (iI S.2.length))) (hp L σ I) := by
  simp (disch := omega) only [e25, u25_0, u25_1, u25_4, hT_p ht, hr.2.2.2.1, hp_I, hp_sI, hp_N, ev_k_s, ev_k_n, true_and, and_true, true_or, or_true, not_true_eq_false, not_false_eq_true, if_true, if_false, ite_self, Option.some.injEq, exists_eq_left', nb_0, nb_1, nb_z, zI_t, zI_f, zI_e, cat_i, cat_r, cat_n, iI_add, iI_sub, iI_mul, iI_neg, iI_lt, iI_le, iI_eq, iI_idx, iI_inT, iI_ne0, ite_false, ite_true, iN_0, iN_1, Int.reduceAdd, Int.reduceSub, Int.reduceMul, Int.reduceNeg, Int.reduceDiv, Int.reduceMod, Int.reduceEq, Int.reduceLT, Int.reduceLE, Int.reduceToNat, Nat.reduceAdd, Nat.reduceSub, Nat.reduceMul, Nat.reduceLT, Nat.reduceLeDiff, Nat.reduceEqDiff, Int.cast_ofNat_Int, Std.le_refl, and_self, Int.toNat_natCast, Int.toNat_zero, Nat.le_refl]
/-- has -/
theorem c26 (ht : isp t) (hr : RepP I t S) (hv : VS S) (h1 : -2147483648 ≤ c) (h2 : c < 2147483648) : ev_c 26 [.ref t, .int (iI c)] (hp L σ I) Q = Q (some (.int (zI (decide (0 ≤ c ∧ c < S.2.length))))) (hp L σ I) := by
  have hn := hr.2.2.2.1
  have hl := hv.2.2.2.1
  simp (disch := omega) only [e26, u26_0, u26_1, u26_4, u26_5, u26_6, u26_9, u26_12, u26_13, u26_16, u26_17, hT_p ht, hn, hp_I, hp_sI, hp_N, ev_k_s, ev_k_n, true_and, and_true, true_or, or_true, not_true_eq_false, not_false_eq_true, if_true, if_false, ite_self, Option.some.injEq, exists_eq_left', nb_0, nb_1, nb_z, zI_t, zI_f, zI_e, cat_i, cat_r, cat_n, iI_add, iI_sub, iI_mul, iI_neg, iI_lt, iI_le, iI_eq, iI_idx, iI_inT, iI_ne0, ite_false, ite_true, iN_0, iN_1, Int.reduceAdd, Int.reduceSub, Int.reduceMul, Int.reduceNeg, Int.reduceDiv, Int.reduceMod, Int.reduceEq, Int.reduceLT, Int.reduceLE, Int.reduceToNat, Nat.reduceAdd, Nat.reduceSub, Nat.reduceMul, Nat.reduceLT, Nat.reduceLeDiff, Nat.reduceEqDiff, Int.cast_ofNat_Int, Std.le_refl, and_self, Int.toNat_natCast, Int.toNat_zero, Nat.le_refl]
  repeat' split
  all_goals first | rw [zI_dt (by omega)] | rw [zI_df (by omega)]
theorem c26t (ht : isp t) (hr : RepP I t S) (hv : VS S) (h : n < S.2.length) : ev_c 26 [.ref t, .int (iI n)] (hp L σ I) Q = Q (some (.int (iI 1))) (hp L σ I) := by
  have hl := hv.2.2.2.1
  rw [c26 ht hr hv (by omega) (by omega), zI_dt (by omega)]
theorem c26f (ht : isp t) (hr : RepP I t S) (hv : VS S) (h1 : -2147483648 ≤ c) (h2 : c < 2147483648) (h : ¬ (0 ≤ c ∧ c < S.2.length)) : ev_c 26 [.ref t, .int (iI c)] (hp L σ I) Q = Q (some (.int (iI 0))) (hp L σ I) := by
  rw [c26 ht hr hv h1 h2, zI_df h]
/-- bassOf -/
theorem c29 (ht : isp t) (hr : RepP I t S) (hv : VS S) (h : n < S.2.length) : ev_c 29 [.ref t, .int (iI n)] (hp L σ I) Q = Q (some (.int (iI (ch S n).1))) (hp L σ I) := by
  have hl := hv.2.2.2.1
  simp (disch := omega) only [e29, u29_0, u29_1, u29_2, u29_5, u29_8, u29_9, u29_12, u29_13, u29_14, u29_17, u29_19, hT_p ht, hT_p2 ht, hR_p1 ht, c26t ht hr hv h, Int.toNat_natCast, (hr.2.2.2.2 n h).1, hp_I, hp_sI, hp_N, ev_k_s, ev_k_n, true_and, and_true, true_or, or_true, not_true_eq_false, not_false_eq_true, if_true, if_false, ite_self, Option.some.injEq, exists_eq_left', nb_0, nb_1, nb_z, zI_t, zI_f, zI_e, cat_i, cat_r, cat_n, iI_add, iI_sub, iI_mul, iI_neg, iI_lt, iI_le, iI_eq, iI_idx, iI_inT, iI_ne0, ite_false, ite_true, iN_0, iN_1, Int.reduceAdd, Int.reduceSub, Int.reduceMul, Int.reduceNeg, Int.reduceDiv, Int.reduceMod, Int.reduceEq, Int.reduceLT, Int.reduceLE, Int.reduceToNat, Nat.reduceAdd, Nat.reduceSub, Nat.reduceMul, Nat.reduceLT, Nat.reduceLeDiff, Nat.reduceEqDiff, Int.cast_ofNat_Int, Std.le_refl, and_self, Int.toNat_natCast, Int.toNat_zero, Nat.le_refl]
theorem c30 (ht : isp t) (hr : RepP I t S) (hv : VS S) (h : n < S.2.length) : ev_c 30 [.ref t, .int (iI n)] (hp L σ I) Q = Q (some (.int (iI (ch S n).2.1))) (hp L σ I) := by
  have hl := hv.2.2.2.1
  simp (disch := omega) only [e30, u30_0, u30_1, u30_2, u30_5, u30_8, u30_9, u30_12, u30_13, u30_14, u30_17, u30_19, hT_p ht, hT_p3 ht, hR_p2 ht, c26t ht hr hv h, Int.toNat_natCast, (hr.2.2.2.2 n h).2.1, hp_I, hp_sI, hp_N, ev_k_s, ev_k_n, true_and, and_true, true_or, or_true, not_true_eq_false, not_false_eq_true, if_true, if_false, ite_self, Option.some.injEq, exists_eq_left', nb_0, nb_1, nb_z, zI_t, zI_f, zI_e, cat_i, cat_r, cat_n, iI_add, iI_sub, iI_mul, iI_neg, iI_lt, iI_le, iI_eq, iI_idx, iI_inT, iI_ne0, ite_false, ite_true, iN_0, iN_1, Int.reduceAdd, Int.reduceSub, Int.reduceMul, Int.reduceNeg, Int.reduceDiv, Int.reduceMod, Int.reduceEq, Int.reduceLT, Int.reduceLE, Int.reduceToNat, Nat.reduceAdd, Nat.reduceSub, Nat.reduceMul, Nat.reduceLT, Nat.reduceLeDiff, Nat.reduceEqDiff, Int.cast_ofNat_Int, Std.le_refl, and_self, Int.toNat_natCast, Int.toNat_zero, Nat.le_refl]
theorem c31 (ht : isp t) (hr : RepP I t S) (hv : VS S) (h : n < S.2.length) : ev_c 31 [.ref t, .int (iI n)] (hp L σ I) Q = Q (some (.int (iI (pkO (ch S n).2.2)))) (hp L σ I) := by
  have hl := hv.2.2.2.1
  simp (disch := omega) only [e31, u31_0, u31_1, u31_2, u31_5, u31_8, u31_9, u31_12, u31_13, u31_14, u31_17, u31_18, hT_p ht, hT_p4 ht, hR_p3 ht, c26t ht hr hv h, Int.toNat_natCast, (hr.2.2.2.2 n h).2.2, hp_I, hp_sI, hp_N, ev_k_s, ev_k_n, true_and, and_true, true_or, or_true, not_true_eq_false, not_false_eq_true, if_true, if_false, ite_self, Option.some.injEq, exists_eq_left', nb_0, nb_1, nb_z, zI_t, zI_f, zI_e, cat_i, cat_r, cat_n, iI_add, iI_sub, iI_mul, iI_neg, iI_lt, iI_le, iI_eq, iI_idx, iI_inT, iI_ne0, ite_false, ite_true, iN_0, iN_1, Int.reduceAdd, Int.reduceSub, Int.reduceMul, Int.reduceNeg, Int.reduceDiv, Int.reduceMod, Int.reduceEq, Int.reduceLT, Int.reduceLE, Int.reduceToNat, Nat.reduceAdd, Nat.reduceSub, Nat.reduceMul, Nat.reduceLT, Nat.reduceLeDiff, Nat.reduceEqDiff, Int.cast_ofNat_Int, Std.le_refl, and_self, Int.toNat_natCast, Int.toNat_zero, Nat.le_refl]
theorem c31f (ht : isp t) (hr : RepP I t S) (hv : VS S) (h1 : -2147483648 ≤ c) (h2 : c < 2147483648) (h : ¬ (0 ≤ c ∧ c < S.2.length)) : ev_c 31 [.ref t, .int (iI c)] (hp L σ I) Q = Q (some (.int (iI (-1)))) (hp L σ I) := by
  simp (disch := omega) only [e31, u31_0, u31_1, u31_2, u31_5, u31_8, u31_9, u31_12, u31_13, u31_14, u31_17, u31_18, hT_p ht, hT_p4 ht, hR_p3 ht, c26f ht hr hv h1 h2 h, hp_I, hp_sI, hp_N, ev_k_s, ev_k_n, true_and, and_true, true_or, or_true, not_true_eq_false, not_false_eq_true, if_true, if_false, ite_self, Option.some.injEq, exists_eq_left', nb_0, nb_1, nb_z, zI_t, zI_f, zI_e, cat_i, cat_r, cat_n, iI_add, iI_sub, iI_mul, iI_neg, iI_lt, iI_le, iI_eq, iI_idx, iI_inT, iI_ne0, ite_false, ite_true, iN_0, iN_1, Int.reduceAdd, Int.reduceSub, Int.reduceMul, Int.reduceNeg, Int.reduceDiv, Int.reduceMod, Int.reduceEq, Int.reduceLT, Int.reduceLE, Int.reduceToNat, Nat.reduceAdd, Nat.reduceSub, Nat.reduceMul, Nat.reduceLT, Nat.reduceLeDiff, Nat.reduceEqDiff, Int.cast_ofNat_Int, Std.le_refl, and_self, Int.toNat_natCast, Int.toNat_zero, Nat.le_refl]
/-- isVoiced -/
theorem c32 (ht : isp t) (hr : RepP I t S) (hv : VS S) (h : n < S.2.length) : ev_c 32 [.ref t, .int (iI n)] (hp L σ I) Q = Q (some (.int (zI (ch S n).2.2.isSome))) (hp L σ I) := by
  have hl := hv.2.2.2.1
  have hb := pkO_lt hv h
  simp (disch := omega) only [e32, u32_0, u32_1, u32_2, u32_5, u32_6, u32_9, u32_10, u32_13, u32_14, hT_p ht, c31 ht hr hv h, hp_I, hp_sI, hp_N, ev_k_s, ev_k_n, true_and, and_true, true_or, or_true, not_true_eq_false, not_false_eq_true, if_true, if_false, ite_self, Option.some.injEq, exists_eq_left', nb_0, nb_1, nb_z, zI_t, zI_f, zI_e, cat_i, cat_r, cat_n, iI_add, iI_sub, iI_mul, iI_neg, iI_lt, iI_le, iI_eq, iI_idx, iI_inT, iI_ne0, ite_false, ite_true, iN_0, iN_1, Int.reduceAdd, Int.reduceSub, Int.reduceMul, Int.reduceNeg, Int.reduceDiv, Int.reduceMod, Int.reduceEq, Int.reduceLT, Int.reduceLE, Int.reduceToNat, Nat.reduceAdd, Nat.reduceSub, Nat.reduceMul, Nat.reduceLT, Nat.reduceLeDiff, Nat.reduceEqDiff, Int.cast_ofNat_Int, Std.le_refl, and_self, Int.toNat_natCast, Int.toNat_zero, Nat.le_refl]
  cases hx : (ch S n).2.2 with
  | none => rfl
  | some v =>
    rw [if_neg]
    · rfl
    · simp only [pkO]; omega
theorem c32f (ht : isp t) (hr : RepP I t S) (hv : VS S) (h1 : -2147483648 ≤ c) (h2 : c < 2147483648) (h : ¬ (0 ≤ c ∧ c < S.2.length)) : ev_c 32 [.ref t, .int (iI c)] (hp L σ I) Q = Q (some (.int (iI 0))) (hp L σ I) := by
  simp (disch := omega) only [e32, u32_0, u32_1, u32_2, u32_5, u32_6, u32_9, u32_10, u32_13, u32_14, hT_p ht, c31f ht hr hv h1 h2 h, hp_I, hp_sI, hp_N, ev_k_s, ev_k_n, true_and, and_true, true_or, or_true, not_true_eq_false, not_false_eq_true, if_true, if_false, ite_self, Option.some.injEq, exists_eq_left', nb_0, nb_1, nb_z, zI_t, zI_f, zI_e, cat_i, cat_r, cat_n, iI_add, iI_sub, iI_mul, iI_neg, iI_lt, iI_le, iI_eq, iI_idx, iI_inT, iI_ne0, ite_false, ite_true, iN_0, iN_1, Int.reduceAdd, Int.reduceSub, Int.reduceMul, Int.reduceNeg, Int.reduceDiv, Int.reduceMod, Int.reduceEq, Int.reduceLT, Int.reduceLE, Int.reduceToNat, Nat.reduceAdd, Nat.reduceSub, Nat.reduceMul, Nat.reduceLT, Nat.reduceLeDiff, Nat.reduceEqDiff, Int.cast_ofNat_Int, Std.le_refl, and_self, Int.toNat_natCast, Int.toNat_zero, Nat.le_refl]
/-- isSetting, isBass, isNote, isSlot -/
theorem c101 (h1 : -2147483648 ≤ c) (h2 : c < 2147483648) : ev_c 101 [.int (iI c)] (hp L σ I) Q = Q (some (.int (zI (decide (0 ≤ c ∧ c < 3))))) (hp L σ I) := by
  simp (disch := omega) only [e101, u101_0, u101_1, u101_4, u101_5, u101_8, u101_9, u101_12, u101_13, u101_16, u101_17, hT_1000001, hp_I, hp_sI, hp_N, ev_k_s, ev_k_n, true_and, and_true, true_or, or_true, not_true_eq_false, not_false_eq_true, if_true, if_false, ite_self, Option.some.injEq, exists_eq_left', nb_0, nb_1, nb_z, zI_t, zI_f, zI_e, cat_i, cat_r, cat_n, iI_add, iI_sub, iI_mul, iI_neg, iI_lt, iI_le, iI_eq, iI_idx, iI_inT, iI_ne0, ite_false, ite_true, iN_0, iN_1, Int.reduceAdd, Int.reduceSub, Int.reduceMul, Int.reduceNeg, Int.reduceDiv, Int.reduceMod, Int.reduceEq, Int.reduceLT, Int.reduceLE, Int.reduceToNat, Nat.reduceAdd, Nat.reduceSub, Nat.reduceMul, Nat.reduceLT, Nat.reduceLeDiff, Nat.reduceEqDiff, Int.cast_ofNat_Int, Std.le_refl, and_self, Int.toNat_natCast, Int.toNat_zero, Nat.le_refl]
  repeat' split
  all_goals first | rw [zI_dt (by omega)] | rw [zI_df (by omega)]
theorem c103 (hs : StI I) (h1 : -2147483648 ≤ c) (h2 : c < 2147483648) : ev_c 103 [.int (iI c)] (hp L σ I) Q = Q (some (.int (zI (decide (36 ≤ c ∧ c ≤ 59))))) (hp L σ I) := by
  simp (disch := omega) only [e103, u103_0, u103_1, u103_4, u103_5, u103_6, u103_9, u103_10, u103_13, u103_14, u103_15, u103_18, u103_19, u103_22, u103_23, hT_1000004, hT_1000005, hs.l0, hs.h0, hp_I, hp_sI, hp_N, ev_k_s, ev_k_n, true_and, and_true, true_or, or_true, not_true_eq_false, not_false_eq_true, if_true, if_false, ite_self, Option.some.injEq, exists_eq_left', nb_0, nb_1, nb_z, zI_t, zI_f, zI_e, cat_i, cat_r, cat_n, iI_add, iI_sub, iI_mul, iI_neg, iI_lt, iI_le, iI_eq, iI_idx, iI_inT, iI_ne0, ite_false, ite_true, iN_0, iN_1, Int.reduceAdd, Int.reduceSub, Int.reduceMul, Int.reduceNeg, Int.reduceDiv, Int.reduceMod, Int.reduceEq, Int.reduceLT, Int.reduceLE, Int.reduceToNat, Nat.reduceAdd, Nat.reduceSub, Nat.reduceMul, Nat.reduceLT, Nat.reduceLeDiff, Nat.reduceEqDiff, Int.cast_ofNat_Int, Std.le_refl, and_self, Int.toNat_natCast, Int.toNat_zero, Nat.le_refl]
  repeat' split
  all_goals first | rw [zI_dt (by omega)] | rw [zI_df (by omega)]
theorem c104 (h1 : -2147483648 ≤ c) (h2 : c < 2147483648) : ev_c 104 [.int (iI c)] (hp L σ I) Q = Q (some (.int (zI (decide (0 ≤ c ∧ c ≤ 99))))) (hp L σ I) := by
  simp (disch := omega) only [e104, u104_0, u104_1, u104_4, u104_5, u104_7, u104_10, u104_11, u104_14, u104_15, hp_I, hp_sI, hp_N, ev_k_s, ev_k_n, true_and, and_true, true_or, or_true, not_true_eq_false, not_false_eq_true, if_true, if_false, ite_self, Option.some.injEq, exists_eq_left', nb_0, nb_1, nb_z, zI_t, zI_f, zI_e, cat_i, cat_r, cat_n, iI_add, iI_sub, iI_mul, iI_neg, iI_lt, iI_le, iI_eq, iI_idx, iI_inT, iI_ne0, ite_false, ite_true, iN_0, iN_1, Int.reduceAdd, Int.reduceSub, Int.reduceMul, Int.reduceNeg, Int.reduceDiv, Int.reduceMod, Int.reduceEq, Int.reduceLT, Int.reduceLE, Int.reduceToNat, Nat.reduceAdd, Nat.reduceSub, Nat.reduceMul, Nat.reduceLT, Nat.reduceLeDiff, Nat.reduceEqDiff, Int.cast_ofNat_Int, Std.le_refl, and_self, Int.toNat_natCast, Int.toNat_zero, Nat.le_refl]
  repeat' split
  all_goals first | rw [zI_dt (by omega)] | rw [zI_df (by omega)]
theorem c102 (h1 : -2147483648 ≤ c) (h2 : c < 2147483648) : ev_c 102 [.int (iI c)] (hp L σ I) Q = Q (some (.int (zI (decide (0 ≤ c ∧ c < 2))))) (hp L σ I) := by
  simp (disch := omega) only [e102, u102_0, u102_1, u102_4, u102_5, u102_6, u102_9, u102_10, u102_13, u102_14, hp_I, hp_sI, hp_N, ev_k_s, ev_k_n, true_and, and_true, true_or, or_true, not_true_eq_false, not_false_eq_true, if_true, if_false, ite_self, Option.some.injEq, exists_eq_left', nb_0, nb_1, nb_z, zI_t, zI_f, zI_e, cat_i, cat_r, cat_n, iI_add, iI_sub, iI_mul, iI_neg, iI_lt, iI_le, iI_eq, iI_idx, iI_inT, iI_ne0, ite_false, ite_true, iN_0, iN_1, Int.reduceAdd, Int.reduceSub, Int.reduceMul, Int.reduceNeg, Int.reduceDiv, Int.reduceMod, Int.reduceEq, Int.reduceLT, Int.reduceLE, Int.reduceToNat, Nat.reduceAdd, Nat.reduceSub, Nat.reduceMul, Nat.reduceLT, Nat.reduceLeDiff, Nat.reduceEqDiff, Int.cast_ofNat_Int, Std.le_refl, and_self, Int.toNat_natCast, Int.toNat_zero, Nat.le_refl]
  repeat' split
  all_goals first | rw [zI_dt (by omega)] | rw [zI_df (by omega)]
end PC
