section MB
variable {L : Nat} {σ : Nat → Nat} {I J K : Nat → Nat → Int32} {Q : Option Value → fb_H → Prop} {h : fb_H} {x y z p q r iv : Int} {S : Co} {n m a o a' o' b b' f : Nat} {v w : Nat × Nat × Nat} {A : AS} {H : List Co}
theorem c114 (h1 : -2147483648 ≤ x) (h2 : x < 2147483648) : ev_c 114 [.int (iI x)] h Q = Q (some (.int (zI (decide (figZ x))))) h := by
  unfold figZ
  by_cases q1 : 5 ≤ x ∧ x ≤ 7
  · have q2 : x = 5 ∨ x = 6 ∨ x = 64 ∨ x = 7 := by omega
    simp (disch := first | exact cat_i _ | exact cat_r _ | exact cat_n | omega) only [e114, u114_0, u114_1, u114_2, u114_4, u114_7, u114_10, u114_11, u114_13, u114_16, u114_17, u114_20, u114_21, c113, zI_dt q1, zI_dt q2, if_pos, if_neg, ↓reduceIte, false_and, and_false, false_or, or_false, ite_not, decide_true, decide_false, Bool.true_eq_false, Bool.false_eq_true, decide_eq_true_eq, decide_eq_false_iff_not, hp_I, hp_sI, hp_N, ev_k_s, ev_k_n, true_and, and_true, true_or, or_true, not_true_eq_false, not_false_eq_true, if_true, if_false, ite_self, Option.some.injEq, exists_eq_left', nb_0, nb_1, nb_z, zI_t, zI_f, zI_e, cat_i, cat_r, cat_n, iI_add, iI_sub, iI_mul, iI_neg, iI_lt, iI_le, iI_eq, iI_idx, iI_inT, iI_ne0, ite_false, ite_true, iN_0, iN_1, Int.reduceAdd, Int.reduceSub, Int.reduceMul, Int.reduceNeg, Int.reduceDiv, Int.reduceMod, Int.reduceEq, Int.reduceLT, Int.reduceLE, Int.reduceToNat, Nat.reduceAdd, Nat.reduceSub, Nat.reduceMul, Nat.reduceLT, Nat.reduceLeDiff, Nat.reduceEqDiff, Int.cast_ofNat_Int, Std.le_refl, and_self, Int.toNat_natCast, Int.toNat_zero, Nat.le_refl]
  · by_cases q3 : x = 64
    · have q2 : x = 5 ∨ x = 6 ∨ x = 64 ∨ x = 7 := by omega
      rw [zI_dt q2]
      simp (disch := first | exact cat_i _ | exact cat_r _ | exact cat_n | omega) only [e114, u114_0, u114_1, u114_2, u114_4, u114_7, u114_10, u114_11, u114_13, u114_16, u114_17, u114_20, u114_21, c113, zI_df q1, q3, if_pos, if_neg, ↓reduceIte, false_and, and_false, false_or, or_false, ite_not, decide_true, decide_false, Bool.true_eq_false, Bool.false_eq_true, decide_eq_true_eq, decide_eq_false_iff_not, hp_I, hp_sI, hp_N, ev_k_s, ev_k_n, true_and, and_true, true_or, or_true, not_true_eq_false, not_false_eq_true, if_true, if_false, ite_self, Option.some.injEq, exists_eq_left', nb_0, nb_1, nb_z, zI_t, zI_f, zI_e, cat_i, cat_r, cat_n, iI_add, iI_sub, iI_mul, iI_neg, iI_lt, iI_le, iI_eq, iI_idx, iI_inT, iI_ne0, ite_false, ite_true, iN_0, iN_1, Int.reduceAdd, Int.reduceSub, Int.reduceMul, Int.reduceNeg, Int.reduceDiv, Int.reduceMod, Int.reduceEq, Int.reduceLT, Int.reduceLE, Int.reduceToNat, Nat.reduceAdd, Nat.reduceSub, Nat.reduceMul, Nat.reduceLT, Nat.reduceLeDiff, Nat.reduceEqDiff, Int.cast_ofNat_Int, Std.le_refl, and_self, Int.toNat_natCast, Int.toNat_zero, Nat.le_refl]
    · have q2 : ¬ (x = 5 ∨ x = 6 ∨ x = 64 ∨ x = 7) := by omega
      rw [zI_df q2]
      simp (disch := first | exact cat_i _ | exact cat_r _ | exact cat_n | omega) only [e114, u114_0, u114_1, u114_2, u114_4, u114_7, u114_10, u114_11, u114_13, u114_16, u114_17, u114_20, u114_21, c113, zI_df q1, q3, if_pos, if_neg, ↓reduceIte, false_and, and_false, false_or, or_false, ite_not, decide_true, decide_false, Bool.true_eq_false, Bool.false_eq_true, decide_eq_true_eq, decide_eq_false_iff_not, hp_I, hp_sI, hp_N, ev_k_s, ev_k_n, true_and, and_true, true_or, or_true, not_true_eq_false, not_false_eq_true, if_true, if_false, ite_self, Option.some.injEq, exists_eq_left', nb_0, nb_1, nb_z, zI_t, zI_f, zI_e, cat_i, cat_r, cat_n, iI_add, iI_sub, iI_mul, iI_neg, iI_lt, iI_le, iI_eq, iI_idx, iI_inT, iI_ne0, ite_false, ite_true, iN_0, iN_1, Int.reduceAdd, Int.reduceSub, Int.reduceMul, Int.reduceNeg, Int.reduceDiv, Int.reduceMod, Int.reduceEq, Int.reduceLT, Int.reduceLE, Int.reduceToNat, Nat.reduceAdd, Nat.reduceSub, Nat.reduceMul, Nat.reduceLT, Nat.reduceLeDiff, Nat.reduceEqDiff, Int.cast_ofNat_Int, Std.le_refl, and_self, Int.toNat_natCast, Int.toNat_zero, Nat.le_refl]
theorem m153 (hM : RepM I A) (hA : AV A) (hx1 : -2147483648 ≤ x) (hx2 : x < 2147483648) (hp1 : -2147483648 ≤ p) (hp2 : p < 2147483648) (hq1 : -2147483648 ≤ q) (hq2 : q < 2147483648) (hr1 : -2147483648 ≤ r) (hr2 : r < 2147483648) : MR L σ I 153 [.ref 102, .int (iI x), .int (iI p), .int (iI q), .int (iI r)] (opVoice A x p q r) := by
  have hl := hA.1.2.2.2.1
  have e116 := fun Q => c116 (L := L) (σ := σ) (Q := Q) hM.1 hl hx1 hx2
  unfold opVoice
  split
  · rename_i hh
    obtain ⟨h1, g1, g2, g3⟩ := hh
    obtain ⟨n, rfl⟩ := Int.eq_ofNat_of_zero_le h1.1
    obtain ⟨a, rfl⟩ := Int.eq_ofNat_of_zero_le g1.1
    obtain ⟨b, rfl⟩ := Int.eq_ofNat_of_zero_le g2.1
    obtain ⟨c, rfl⟩ := Int.eq_ofNat_of_zero_le g3.1
    have hn : n < A.1.2.length := by omega
    have hvv : VV (a, b, c) := ⟨by show a ≤ 99; omega, by show b ≤ 99; omega, by show c ≤ 99; omega⟩
    simp only [Int.toNat_natCast]
    obtain ⟨J, j1, j2, j3, j4⟩ := mchg (L := L) (σ := σ) hM hA
    obtain ⟨K, k1, k2, k3⟩ := c154 (L := L) (σ := σ) j2 hl hn (a, b, c)
    have hV : VS (gv A.1 n (some (a, b, c))) := VS_gv hA.1 hn fun v e => by cases e; exact hvv
    obtain ⟨K2, l1, l2⟩ := c134 (L := L) (σ := σ) k2 hV (n := n) (by rw [len_gv]; exact hn)
    rw [flt_gv hn] at l1
    obtain ⟨r1, r2⟩ := j4 K2 _ (RepS_o k2 fun q => l2 _ _ (by omega) (by omega)) (fun i q a b => (l2 i q (by omega) (by omega)).trans (k3 i q a))
    refine ⟨K2, fun Q => ?_, r1, r2⟩
    simp (disch := first | exact cat_i _ | exact cat_r _ | exact cat_n | omega) only [e153, u153_0, u153_1, u153_2, u153_5, u153_8, u153_9, u153_10, u153_11, u153_14, u153_17, u153_18, u153_21, u153_24, u153_26, u153_29, u153_32, u153_34, u153_35, u153_36, u153_39, u153_40, u153_41, u153_42, u153_43, u153_45, u153_48, u153_49, u153_50, u153_53, hT_102, e116, zI_dt h1, c115, zI_dt g1, zI_dt g2, zI_dt g3, j1, k1, l1, if_pos, if_neg, ↓reduceIte, false_and, and_false, false_or, or_false, ite_not, decide_true, decide_false, Bool.true_eq_false, Bool.false_eq_true, decide_eq_true_eq, decide_eq_false_iff_not, hp_I, hp_sI, hp_N, ev_k_s, ev_k_n, true_and, and_true, true_or, or_true, not_true_eq_false, not_false_eq_true, if_true, if_false, ite_self, Option.some.injEq, exists_eq_left', nb_0, nb_1, nb_z, zI_t, zI_f, zI_e, cat_i, cat_r, cat_n, iI_add, iI_sub, iI_mul, iI_neg, iI_lt, iI_le, iI_eq, iI_idx, iI_inT, iI_ne0, ite_false, ite_true, iN_0, iN_1, Int.reduceAdd, Int.reduceSub, Int.reduceMul, Int.reduceNeg, Int.reduceDiv, Int.reduceMod, Int.reduceEq, Int.reduceLT, Int.reduceLE, Int.reduceToNat, Nat.reduceAdd, Nat.reduceSub, Nat.reduceMul, Nat.reduceLT, Nat.reduceLeDiff, Nat.reduceEqDiff, Int.cast_ofNat_Int, Std.le_refl, and_self, Int.toNat_natCast, Int.toNat_zero, Nat.le_refl]
  · rename_i hh
    refine MR_id hM fun Q => ?_
    unfold opIfv
    by_cases h1 : 0 ≤ x ∧ x < A.1.2.length
    · rw [if_neg (fun w => w h1)]
      have h2 : ¬ ((0 ≤ p ∧ p ≤ 99) ∧ (0 ≤ q ∧ q ≤ 99) ∧ (0 ≤ r ∧ r ≤ 99)) := fun w => hh ⟨h1, w⟩
      rw [if_pos h2]
      by_cases g1 : 0 ≤ p ∧ p ≤ 99
      · by_cases g2 : 0 ≤ q ∧ q ≤ 99
        · have g3 : ¬ (0 ≤ r ∧ r ≤ 99) := fun w => h2 ⟨g1, g2, w⟩
          simp (disch := first | exact cat_i _ | exact cat_r _ | exact cat_n | omega) only [u153_0, u153_1, u153_2, u153_5, u153_8, u153_9, u153_10, u153_11, u153_14, u153_17, u153_18, u153_21, u153_24, u153_26, u153_29, u153_32, u153_34, e153, hT_102, e116, zI_dt h1, c115, zI_dt g1, zI_dt g2, zI_df g3, if_pos, if_neg, ↓reduceIte, false_and, and_false, false_or, or_false, ite_not, decide_true, decide_false, Bool.true_eq_false, Bool.false_eq_true, decide_eq_true_eq, decide_eq_false_iff_not, hp_I, hp_sI, hp_N, ev_k_s, ev_k_n, true_and, and_true, true_or, or_true, not_true_eq_false, not_false_eq_true, if_true, if_false, ite_self, Option.some.injEq, exists_eq_left', nb_0, nb_1, nb_z, zI_t, zI_f, zI_e, cat_i, cat_r, cat_n, iI_add, iI_sub, iI_mul, iI_neg, iI_lt, iI_le, iI_eq, iI_idx, iI_inT, iI_ne0, ite_false, ite_true, iN_0, iN_1, Int.reduceAdd, Int.reduceSub, Int.reduceMul, Int.reduceNeg, Int.reduceDiv, Int.reduceMod, Int.reduceEq, Int.reduceLT, Int.reduceLE, Int.reduceToNat, Nat.reduceAdd, Nat.reduceSub, Nat.reduceMul, Nat.reduceLT, Nat.reduceLeDiff, Nat.reduceEqDiff, Int.cast_ofNat_Int, Std.le_refl, and_self, Int.toNat_natCast, Int.toNat_zero, Nat.le_refl]
        · simp (disch := first | exact cat_i _ | exact cat_r _ | exact cat_n | omega) only [u153_0, u153_1, u153_2, u153_5, u153_8, u153_9, u153_10, u153_11, u153_14, u153_17, u153_18, u153_21, u153_24, u153_26, u153_29, u153_32, u153_34, e153, hT_102, e116, zI_dt h1, c115, zI_dt g1, zI_df g2, if_pos, if_neg, ↓reduceIte, false_and, and_false, false_or, or_false, ite_not, decide_true, decide_false, Bool.true_eq_false, Bool.false_eq_true, decide_eq_true_eq, decide_eq_false_iff_not, hp_I, hp_sI, hp_N, ev_k_s, ev_k_n, true_and, and_true, true_or, or_true, not_true_eq_false, not_false_eq_true, if_true, if_false, ite_self, Option.some.injEq, exists_eq_left', nb_0, nb_1, nb_z, zI_t, zI_f, zI_e, cat_i, cat_r, cat_n, iI_add, iI_sub, iI_mul, iI_neg, iI_lt, iI_le, iI_eq, iI_idx, iI_inT, iI_ne0, ite_false, ite_true, iN_0, iN_1, Int.reduceAdd, Int.reduceSub, Int.reduceMul, Int.reduceNeg, Int.reduceDiv, Int.reduceMod, Int.reduceEq, Int.reduceLT, Int.reduceLE, Int.reduceToNat, Nat.reduceAdd, Nat.reduceSub, Nat.reduceMul, Nat.reduceLT, Nat.reduceLeDiff, Nat.reduceEqDiff, Int.cast_ofNat_Int, Std.le_refl, and_self, Int.toNat_natCast, Int.toNat_zero, Nat.le_refl]
      · simp (disch := first | exact cat_i _ | exact cat_r _ | exact cat_n | omega) only [u153_0, u153_1, u153_2, u153_5, u153_8, u153_9, u153_10, u153_11, u153_14, u153_17, u153_18, u153_21, u153_24, u153_26, u153_29, u153_32, u153_34, e153, hT_102, e116, zI_dt h1, c115, zI_df g1, if_pos, if_neg, ↓reduceIte, false_and, and_false, false_or, or_false, ite_not, decide_true, decide_false, Bool.true_eq_false, Bool.false_eq_true, decide_eq_true_eq, decide_eq_false_iff_not, hp_I, hp_sI, hp_N, ev_k_s, ev_k_n, true_and, and_true, true_or, or_true, not_true_eq_false, not_false_eq_true, if_true, if_false, ite_self, Option.some.injEq, exists_eq_left', nb_0, nb_1, nb_z, zI_t, zI_f, zI_e, cat_i, cat_r, cat_n, iI_add, iI_sub, iI_mul, iI_neg, iI_lt, iI_le, iI_eq, iI_idx, iI_inT, iI_ne0, ite_false, ite_true, iN_0, iN_1, Int.reduceAdd, Int.reduceSub, Int.reduceMul, Int.reduceNeg, Int.reduceDiv, Int.reduceMod, Int.reduceEq, Int.reduceLT, Int.reduceLE, Int.reduceToNat, Nat.reduceAdd, Nat.reduceSub, Nat.reduceMul, Nat.reduceLT, Nat.reduceLeDiff, Nat.reduceEqDiff, Int.cast_ofNat_Int, Std.le_refl, and_self, Int.toNat_natCast, Int.toNat_zero, Nat.le_refl]
    · rw [if_pos h1]
      simp (disch := first | exact cat_i _ | exact cat_r _ | exact cat_n | omega) only [u153_0, u153_1, u153_2, u153_5, u153_8, u153_9, u153_10, u153_11, u153_14, u153_17, u153_18, u153_21, u153_24, u153_26, u153_29, u153_32, u153_34, e153, hT_102, e116, zI_df h1, if_pos, if_neg, ↓reduceIte, false_and, and_false, false_or, or_false, ite_not, decide_true, decide_false, Bool.true_eq_false, Bool.false_eq_true, decide_eq_true_eq, decide_eq_false_iff_not, hp_I, hp_sI, hp_N, ev_k_s, ev_k_n, true_and, and_true, true_or, or_true, not_true_eq_false, not_false_eq_true, if_true, if_false, ite_self, Option.some.injEq, exists_eq_left', nb_0, nb_1, nb_z, zI_t, zI_f, zI_e, cat_i, cat_r, cat_n, iI_add, iI_sub, iI_mul, iI_neg, iI_lt, iI_le, iI_eq, iI_idx, iI_inT, iI_ne0, ite_false, ite_true, iN_0, iN_1, Int.reduceAdd, Int.reduceSub, Int.reduceMul, Int.reduceNeg, Int.reduceDiv, Int.reduceMod, Int.reduceEq, Int.reduceLT, Int.reduceLE, Int.reduceToNat, Nat.reduceAdd, Nat.reduceSub, Nat.reduceMul, Nat.reduceLT, Nat.reduceLeDiff, Nat.reduceEqDiff, Int.cast_ofNat_Int, Std.le_refl, and_self, Int.toNat_natCast, Int.toNat_zero, Nat.le_refl]
/-- ifVoiced -/
theorem m166 (hM : RepM I A) (hA : AV A) (hx1 : -2147483648 ≤ x) (hx2 : x < 2147483648) (hp1 : -2147483648 ≤ p) (hp2 : p < 2147483648) (hq1 : -2147483648 ≤ q) (hq2 : q < 2147483648) (hr1 : -2147483648 ≤ r) (hr2 : r < 2147483648) : MR L σ I 166 [.ref 102, .int (iI x), .int (iI p), .int (iI q), .int (iI r)] (opIfv A x p q r, A) := by
  have hl := hA.1.2.2.2.1
  have e116 := fun Q => c116 (L := L) (σ := σ) (Q := Q) hM.1 hl hx1 hx2
  unfold opIfv
  by_cases h1 : 0 ≤ x ∧ x < A.1.2.length
  · rw [if_neg (fun w => w h1)]
    by_cases h2 : (0 ≤ p ∧ p ≤ 99) ∧ (0 ≤ q ∧ q ≤ 99) ∧ (0 ≤ r ∧ r ≤ 99)
    · rw [if_neg (fun w => w h2)]
      obtain ⟨g1, g2, g3⟩ := h2
      obtain ⟨n, rfl⟩ := Int.eq_ofNat_of_zero_le h1.1
      obtain ⟨a, rfl⟩ := Int.eq_ofNat_of_zero_le g1.1
      obtain ⟨b, rfl⟩ := Int.eq_ofNat_of_zero_le g2.1
      obtain ⟨c, rfl⟩ := Int.eq_ofNat_of_zero_le g3.1
      have hn : n < A.1.2.length := by omega
      have hvv : VV (a, b, c) := ⟨by show a ≤ 99; omega, by show b ≤ 99; omega, by show c ≤ 99; omega⟩
      simp only [Int.toNat_natCast]
      obtain ⟨J, j1, j2⟩ := c133 (L := L) (σ := σ) hM.1 hA.1 hn hvv
      refine MR_v hM (fun Q => ?_) (OthF_M j2)
      simp (disch := first | exact cat_i _ | exact cat_r _ | exact cat_n | omega) only [e166, u166_0, u166_1, u166_2, u166_5, u166_8, u166_9, u166_10, u166_11, u166_14, u166_17, u166_18, u166_21, u166_24, u166_26, u166_29, u166_32, u166_33, u166_34, u166_35, u166_36, u166_38, u166_41, u166_44, u166_46, hT_102, e116, zI_dt h1, c115, zI_dt g1, zI_dt g2, zI_dt g3, j1, if_pos, if_neg, ↓reduceIte, false_and, and_false, false_or, or_false, ite_not, decide_true, decide_false, Bool.true_eq_false, Bool.false_eq_true, decide_eq_true_eq, decide_eq_false_iff_not, hp_I, hp_sI, hp_N, ev_k_s, ev_k_n, true_and, and_true, true_or, or_true, not_true_eq_false, not_false_eq_true, if_true, if_false, ite_self, Option.some.injEq, exists_eq_left', nb_0, nb_1, nb_z, zI_t, zI_f, zI_e, cat_i, cat_r, cat_n, iI_add, iI_sub, iI_mul, iI_neg, iI_lt, iI_le, iI_eq, iI_idx, iI_inT, iI_ne0, ite_false, ite_true, iN_0, iN_1, Int.reduceAdd, Int.reduceSub, Int.reduceMul, Int.reduceNeg, Int.reduceDiv, Int.reduceMod, Int.reduceEq, Int.reduceLT, Int.reduceLE, Int.reduceToNat, Nat.reduceAdd, Nat.reduceSub, Nat.reduceMul, Nat.reduceLT, Nat.reduceLeDiff, Nat.reduceEqDiff, Int.cast_ofNat_Int, Std.le_refl, and_self, Int.toNat_natCast, Int.toNat_zero, Nat.le_refl]
    · rw [if_pos h2]
      refine MR_id hM fun Q => ?_
      by_cases g1 : 0 ≤ p ∧ p ≤ 99
      · by_cases g2 : 0 ≤ q ∧ q ≤ 99
        · have g3 : ¬ (0 ≤ r ∧ r ≤ 99) := fun w => h2 ⟨g1, g2, w⟩
          simp (disch := first | exact cat_i _ | exact cat_r _ | exact cat_n | omega) only [e166, u166_0, u166_1, u166_2, u166_5, u166_8, u166_9, u166_10, u166_11, u166_14, u166_17, u166_18, u166_21, u166_24, u166_26, u166_29, u166_32, u166_33, u166_34, u166_35, u166_36, u166_38, u166_41, u166_44, u166_46, hT_102, e116, zI_dt h1, c115, zI_dt g1, zI_dt g2, zI_df g3, if_pos, if_neg, ↓reduceIte, false_and, and_false, false_or, or_false, ite_not, decide_true, decide_false, Bool.true_eq_false, Bool.false_eq_true, decide_eq_true_eq, decide_eq_false_iff_not, hp_I, hp_sI, hp_N, ev_k_s, ev_k_n, true_and, and_true, true_or, or_true, not_true_eq_false, not_false_eq_true, if_true, if_false, ite_self, Option.some.injEq, exists_eq_left', nb_0, nb_1, nb_z, zI_t, zI_f, zI_e, cat_i, cat_r, cat_n, iI_add, iI_sub, iI_mul, iI_neg, iI_lt, iI_le, iI_eq, iI_idx, iI_inT, iI_ne0, ite_false, ite_true, iN_0, iN_1, Int.reduceAdd, Int.reduceSub, Int.reduceMul, Int.reduceNeg, Int.reduceDiv, Int.reduceMod, Int.reduceEq, Int.reduceLT, Int.reduceLE, Int.reduceToNat, Nat.reduceAdd, Nat.reduceSub, Nat.reduceMul, Nat.reduceLT, Nat.reduceLeDiff, Nat.reduceEqDiff, Int.cast_ofNat_Int, Std.le_refl, and_self, Int.toNat_natCast, Int.toNat_zero, Nat.le_refl]
        · simp (disch := first | exact cat_i _ | exact cat_r _ | exact cat_n | omega) only [e166, u166_0, u166_1, u166_2, u166_5, u166_8, u166_9, u166_10, u166_11, u166_14, u166_17, u166_18, u166_21, u166_24, u166_26, u166_29, u166_32, u166_33, u166_34, u166_35, u166_36, u166_38, u166_41, u166_44, u166_46, hT_102, e116, zI_dt h1, c115, zI_dt g1, zI_df g2, if_pos, if_neg, ↓reduceIte, false_and, and_false, false_or, or_false, ite_not, decide_true, decide_false, Bool.true_eq_false, Bool.false_eq_true, decide_eq_true_eq, decide_eq_false_iff_not, hp_I, hp_sI, hp_N, ev_k_s, ev_k_n, true_and, and_true, true_or, or_true, not_true_eq_false, not_false_eq_true, if_true, if_false, ite_self, Option.some.injEq, exists_eq_left', nb_0, nb_1, nb_z, zI_t, zI_f, zI_e, cat_i, cat_r, cat_n, iI_add, iI_sub, iI_mul, iI_neg, iI_lt, iI_le, iI_eq, iI_idx, iI_inT, iI_ne0, ite_false, ite_true, iN_0, iN_1, Int.reduceAdd, Int.reduceSub, Int.reduceMul, Int.reduceNeg, Int.reduceDiv, Int.reduceMod, Int.reduceEq, Int.reduceLT, Int.reduceLE, Int.reduceToNat, Nat.reduceAdd, Nat.reduceSub, Nat.reduceMul, Nat.reduceLT, Nat.reduceLeDiff, Nat.reduceEqDiff, Int.cast_ofNat_Int, Std.le_refl, and_self, Int.toNat_natCast, Int.toNat_zero, Nat.le_refl]
      · simp (disch := first | exact cat_i _ | exact cat_r _ | exact cat_n | omega) only [e166, u166_0, u166_1, u166_2, u166_5, u166_8, u166_9, u166_10, u166_11, u166_14, u166_17, u166_18, u166_21, u166_24, u166_26, u166_29, u166_32, u166_33, u166_34, u166_35, u166_36, u166_38, u166_41, u166_44, u166_46, hT_102, e116, zI_dt h1, c115, zI_df g1, if_pos, if_neg, ↓reduceIte, false_and, and_false, false_or, or_false, ite_not, decide_true, decide_false, Bool.true_eq_false, Bool.false_eq_true, decide_eq_true_eq, decide_eq_false_iff_not, hp_I, hp_sI, hp_N, ev_k_s, ev_k_n, true_and, and_true, true_or, or_true, not_true_eq_false, not_false_eq_true, if_true, if_false, ite_self, Option.some.injEq, exists_eq_left', nb_0, nb_1, nb_z, zI_t, zI_f, zI_e, cat_i, cat_r, cat_n, iI_add, iI_sub, iI_mul, iI_neg, iI_lt, iI_le, iI_eq, iI_idx, iI_inT, iI_ne0, ite_false, ite_true, iN_0, iN_1, Int.reduceAdd, Int.reduceSub, Int.reduceMul, Int.reduceNeg, Int.reduceDiv, Int.reduceMod, Int.reduceEq, Int.reduceLT, Int.reduceLE, Int.reduceToNat, Nat.reduceAdd, Nat.reduceSub, Nat.reduceMul, Nat.reduceLT, Nat.reduceLeDiff, Nat.reduceEqDiff, Int.cast_ofNat_Int, Std.le_refl, and_self, Int.toNat_natCast, Int.toNat_zero, Nat.le_refl]
  · rw [if_pos h1]
    refine MR_id hM fun Q => ?_
    simp (disch := first | exact cat_i _ | exact cat_r _ | exact cat_n | omega) only [e166, u166_0, u166_1, u166_2, u166_5, u166_8, u166_9, u166_10, u166_11, u166_14, u166_17, u166_18, u166_21, u166_24, u166_26, u166_29, u166_32, u166_33, u166_34, u166_35, u166_36, u166_38, u166_41, u166_44, u166_46, hT_102, e116, zI_df h1, if_pos, if_neg, ↓reduceIte, false_and, and_false, false_or, or_false, ite_not, decide_true, decide_false, Bool.true_eq_false, Bool.false_eq_true, decide_eq_true_eq, decide_eq_false_iff_not, hp_I, hp_sI, hp_N, ev_k_s, ev_k_n, true_and, and_true, true_or, or_true, not_true_eq_false, not_false_eq_true, if_true, if_false, ite_self, Option.some.injEq, exists_eq_left', nb_0, nb_1, nb_z, zI_t, zI_f, zI_e, cat_i, cat_r, cat_n, iI_add, iI_sub, iI_mul, iI_neg, iI_lt, iI_le, iI_eq, iI_idx, iI_inT, iI_ne0, ite_false, ite_true, iN_0, iN_1, Int.reduceAdd, Int.reduceSub, Int.reduceMul, Int.reduceNeg, Int.reduceDiv, Int.reduceMod, Int.reduceEq, Int.reduceLT, Int.reduceLE, Int.reduceToNat, Nat.reduceAdd, Nat.reduceSub, Nat.reduceMul, Nat.reduceLT, Nat.reduceLeDiff, Nat.reduceEqDiff, Int.cast_ofNat_Int, Std.le_refl, and_self, Int.toNat_natCast, Int.toNat_zero, Nat.le_refl]
/-- chord -/
theorem m151 (hM : RepM I A) (hA : AV A) (hx1 : -2147483648 ≤ x) (hx2 : x < 2147483648) (hy1 : -2147483648 ≤ y) (hy2 : y < 2147483648) (hz1 : -2147483648 ≤ z) (hz2 : z < 2147483648) : MR L σ I 151 [.ref 102, .int (iI x), .int (iI y), .int (iI z)] (opChord A x y z) := by
  have hl := hA.1.2.2.2.1
  have h0 := hM.1.1
  unfold opChord
  split
  · rename_i hh
    refine MR_id hM fun Q => ?_
    simp (disch := first | exact cat_i _ | exact cat_r _ | exact cat_n | omega) only [u151_0, u151_1, u151_2, u151_3, u151_6, u151_7, u151_8, u151_11, u151_14, u151_15, e151, hT_102, hT_103, hR_102_0, h0, c113, zI_df hh, if_pos, if_neg, ↓reduceIte, false_and, and_false, false_or, or_false, ite_not, decide_true, decide_false, Bool.true_eq_false, Bool.false_eq_true, decide_eq_true_eq, decide_eq_false_iff_not, hp_I, hp_sI, hp_N, ev_k_s, ev_k_n, true_and, and_true, true_or, or_true, not_true_eq_false, not_false_eq_true, if_true, if_false, ite_self, Option.some.injEq, exists_eq_left', nb_0, nb_1, nb_z, zI_t, zI_f, zI_e, cat_i, cat_r, cat_n, iI_add, iI_sub, iI_mul, iI_neg, iI_lt, iI_le, iI_eq, iI_idx, iI_inT, iI_ne0, ite_false, ite_true, iN_0, iN_1, Int.reduceAdd, Int.reduceSub, Int.reduceMul, Int.reduceNeg, Int.reduceDiv, Int.reduceMod, Int.reduceEq, Int.reduceLT, Int.reduceLE, Int.reduceToNat, Nat.reduceAdd, Nat.reduceSub, Nat.reduceMul, Nat.reduceLT, Nat.reduceLeDiff, Nat.reduceEqDiff, Int.cast_ofNat_Int, Std.le_refl, and_self, Int.toNat_natCast, Int.toNat_zero, Nat.le_refl]
  · rename_i hh
    have h1 : 0 ≤ x ∧ x ≤ A.1.2.length := Classical.not_not.mp hh
    split
    · rename_i g
      refine MR_id hM fun Q => ?_
      by_cases g1 : 36 ≤ y ∧ y ≤ 59
      · have g2 : ¬ figZ z := fun w => g ⟨g1, w⟩
        simp (disch := first | exact cat_i _ | exact cat_r _ | exact cat_n | omega) only [u151_0, u151_1, u151_2, u151_3, u151_6, u151_7, u151_8, u151_11, u151_14, u151_15, u151_16, u151_17, u151_19, u151_21, u151_24, u151_27, u151_28, u151_31, u151_34, u151_36, e151, hT_102, hT_103, hR_102_0, h0, c113, c114, zI_dt h1, zI_dt g1, zI_df g2, if_pos, if_neg, ↓reduceIte, false_and, and_false, false_or, or_false, ite_not, decide_true, decide_false, Bool.true_eq_false, Bool.false_eq_true, decide_eq_true_eq, decide_eq_false_iff_not, hp_I, hp_sI, hp_N, ev_k_s, ev_k_n, true_and, and_true, true_or, or_true, not_true_eq_false, not_false_eq_true, if_true, if_false, ite_self, Option.some.injEq, exists_eq_left', nb_0, nb_1, nb_z, zI_t, zI_f, zI_e, cat_i, cat_r, cat_n, iI_add, iI_sub, iI_mul, iI_neg, iI_lt, iI_le, iI_eq, iI_idx, iI_inT, iI_ne0, ite_false, ite_true, iN_0, iN_1, Int.reduceAdd, Int.reduceSub, Int.reduceMul, Int.reduceNeg, Int.reduceDiv, Int.reduceMod, Int.reduceEq, Int.reduceLT, Int.reduceLE, Int.reduceToNat, Nat.reduceAdd, Nat.reduceSub, Nat.reduceMul, Nat.reduceLT, Nat.reduceLeDiff, Nat.reduceEqDiff, Int.cast_ofNat_Int, Std.le_refl, and_self, Int.toNat_natCast, Int.toNat_zero, Nat.le_refl]
      · simp (disch := first | exact cat_i _ | exact cat_r _ | exact cat_n | omega) only [u151_0, u151_1, u151_2, u151_3, u151_6, u151_7, u151_8, u151_11, u151_14, u151_15, u151_16, u151_17, u151_19, u151_21, u151_24, u151_27, u151_28, u151_31, u151_34, u151_36, e151, hT_102, hT_103, hR_102_0, h0, c113, c114, zI_dt h1, zI_df g1, if_pos, if_neg, ↓reduceIte, false_and, and_false, false_or, or_false, ite_not, decide_true, decide_false, Bool.true_eq_false, Bool.false_eq_true, decide_eq_true_eq, decide_eq_false_iff_not, hp_I, hp_sI, hp_N, ev_k_s, ev_k_n, true_and, and_true, true_or, or_true, not_true_eq_false, not_false_eq_true, if_true, if_false, ite_self, Option.some.injEq, exists_eq_left', nb_0, nb_1, nb_z, zI_t, zI_f, zI_e, cat_i, cat_r, cat_n, iI_add, iI_sub, iI_mul, iI_neg, iI_lt, iI_le, iI_eq, iI_idx, iI_inT, iI_ne0, ite_false, ite_true, iN_0, iN_1, Int.reduceAdd, Int.reduceSub, Int.reduceMul, Int.reduceNeg, Int.reduceDiv, Int.reduceMod, Int.reduceEq, Int.reduceLT, Int.reduceLE, Int.reduceToNat, Nat.reduceAdd, Nat.reduceSub, Nat.reduceMul, Nat.reduceLT, Nat.reduceLeDiff, Nat.reduceEqDiff, Int.cast_ofNat_Int, Std.le_refl, and_self, Int.toNat_natCast, Int.toNat_zero, Nat.le_refl]
    · rename_i g
      obtain ⟨g1, g2⟩ := Classical.not_not.mp g
      split
      · rename_i k
        refine MR_id hM fun Q => ?_
        simp (disch := first | exact cat_i _ | exact cat_r _ | exact cat_n | omega) only [u151_0, u151_1, u151_2, u151_3, u151_6, u151_7, u151_8, u151_11, u151_14, u151_15, u151_16, u151_17, u151_19, u151_21, u151_24, u151_27, u151_28, u151_31, u151_34, u151_36, u151_37, u151_38, u151_41, u151_42, u151_43, u151_45, u151_48, u151_50, e151, hT_102, hT_103, hR_102_0, h0, c113, c114, zI_dt h1, zI_dt g1, zI_dt g2, if_pos, if_neg, ↓reduceIte, false_and, and_false, false_or, or_false, ite_not, decide_true, decide_false, Bool.true_eq_false, Bool.false_eq_true, decide_eq_true_eq, decide_eq_false_iff_not, hp_I, hp_sI, hp_N, ev_k_s, ev_k_n, true_and, and_true, true_or, or_true, not_true_eq_false, not_false_eq_true, if_true, if_false, ite_self, Option.some.injEq, exists_eq_left', nb_0, nb_1, nb_z, zI_t, zI_f, zI_e, cat_i, cat_r, cat_n, iI_add, iI_sub, iI_mul, iI_neg, iI_lt, iI_le, iI_eq, iI_idx, iI_inT, iI_ne0, ite_false, ite_true, iN_0, iN_1, Int.reduceAdd, Int.reduceSub, Int.reduceMul, Int.reduceNeg, Int.reduceDiv, Int.reduceMod, Int.reduceEq, Int.reduceLT, Int.reduceLE, Int.reduceToNat, Nat.reduceAdd, Nat.reduceSub, Nat.reduceMul, Nat.reduceLT, Nat.reduceLeDiff, Nat.reduceEqDiff, Int.cast_ofNat_Int, Std.le_refl, and_self, Int.toNat_natCast, Int.toNat_zero, Nat.le_refl]
      · rename_i k
        obtain ⟨n, rfl⟩ := Int.eq_ofNat_of_zero_le h1.1
        obtain ⟨b, rfl⟩ := Int.eq_ofNat_of_zero_le (show 0 ≤ y by omega)
        obtain ⟨f, rfl⟩ := Int.eq_ofNat_of_zero_le (show 0 ≤ z by unfold figZ at g2; omega)
        simp only [Int.toNat_natCast]
        have hn : n ≤ A.1.2.length := by omega
        obtain ⟨J, j1, j2, j3, j4⟩ := mchg (L := L) (σ := σ) hM hA
        obtain ⟨s0, s1, s2, s3⟩ := RepS_0 j2
        generalize hlen : A.1.2.length = len at *
        obtain ⟨G, ⟨p1, p2⟩, e⟩ := lx (fun Q (B : Nat → Nat → Int32) (k : Nat) => ev_w 151 70 [.ref 102, .int (iI (n : Int)), .int (iI (b : Int)), .int (iI (f : Int)), .int (iI ((6 * len - k : Nat) : Int))] [] (hp L σ B) Q) (fun B k => (∀ i q, i ≠ 103 → B i q = J i q) ∧ ∀ q, B 103 q = if 6 * len - k + 6 < q ∧ q ≤ 6 * len + 6 then J 103 (q - 6) else J 103 q) (6 * (len - n)) (fun B k hk hp' => by
          obtain ⟨p1, p2⟩ := hp'
          have f1 : ((6 * len - k : Nat) : Int) + 6 = ((6 * len - k + 6 : Nat) : Int) := by omega
          have f2 : ((6 * len - k : Nat) : Int) + -1 = ((6 * len - (k + 1) : Nat) : Int) := by omega
          have f3 : ((6 * len - k + 6 : Nat) : Int).toNat = 6 * len - k + 6 := by omega
          have f4 : ((6 * len - k : Nat) : Int).toNat = 6 * len - k := by omega
          refine ⟨fb_u2 B 103 (6 * len - k + 6) (B 103 (6 * len - k)), ⟨fun i q a => (u2_ne (by omega)).trans (p1 i q a), fun q => ?_⟩, fun Q => ?_⟩
          · by_cases e : q = 6 * len - k + 6
            · subst e
              rw [u2_eq, p2, if_neg (by omega), if_pos (by omega), Nat.add_sub_cancel]
            · rw [u2_ne (by omega), p2]
              by_cases e2 : 6 * len - k + 6 < q ∧ q ≤ 6 * len + 6
              · rw [if_pos e2, if_pos (by omega)]
              · rw [if_neg e2, if_neg (by omega)]
          · show ev_w 151 70 [.ref 102, .int (iI (n : Int)), .int (iI (b : Int)), .int (iI (f : Int)), .int (iI ((6 * len - k : Nat) : Int))] [] (hp L σ B) Q = _
            rw [u151_70]
            simp (disch := first | exact cat_i _ | exact cat_r _ | exact cat_n | omega) only [u151_72, u151_73, u151_75, u151_76, u151_77, u151_78, u151_81, u151_82, u151_85, u151_87, u151_89, u151_90, u151_91, u151_94, u151_96, u151_97, u151_98, u151_101, hT_102, hT_103, hR_102_0, f1, f2, f3, f4, if_pos, if_neg, ↓reduceIte, false_and, and_false, false_or, or_false, ite_not, decide_true, decide_false, Bool.true_eq_false, Bool.false_eq_true, decide_eq_true_eq, decide_eq_false_iff_not, hp_I, hp_sI, hp_N, ev_k_s, ev_k_n, true_and, and_true, true_or, or_true, not_true_eq_false, not_false_eq_true, if_true, if_false, ite_self, Option.some.injEq, exists_eq_left', nb_0, nb_1, nb_z, zI_t, zI_f, zI_e, cat_i, cat_r, cat_n, iI_add, iI_sub, iI_mul, iI_neg, iI_lt, iI_le, iI_eq, iI_idx, iI_inT, iI_ne0, ite_false, ite_true, iN_0, iN_1, Int.reduceAdd, Int.reduceSub, Int.reduceMul, Int.reduceNeg, Int.reduceDiv, Int.reduceMod, Int.reduceEq, Int.reduceLT, Int.reduceLE, Int.reduceToNat, Nat.reduceAdd, Nat.reduceSub, Nat.reduceMul, Nat.reduceLT, Nat.reduceLeDiff, Nat.reduceEqDiff, Int.cast_ofNat_Int, Std.le_refl, and_self, Int.toNat_natCast, Int.toNat_zero, Nat.le_refl]) (6 * (len - n)) 0 J (by omega) ⟨fun _ _ _ => rfl, fun q => by rw [if_neg (by omega)]⟩
        have g0 : G 103 0 = iI (len : Int) := by rw [p2, if_neg (by omega)]; exact s0
        obtain ⟨K, k1, ⟨k2, k3, k4⟩, k5⟩ := c150 (L := L) (σ := σ) (I := fb_u2 G 103 0 (iI ((len : Int) + 1))) (n := n) (by omega) (y := iI (b : Int)) (z := iI (f : Int))
        have hK0 : K 103 0 = iI ((len : Int) + 1) := (k5 _ _ (by omega)).trans u2_eq
        have hKo : ∀ q, 0 < q → (q < 1 + 6 * n ∨ 1 + 6 * n + 6 ≤ q) → K 103 q = if 6 * n + 6 < q ∧ q ≤ 6 * len + 6 then J 103 (q - 6) else J 103 q := fun q a c => by
          rw [k5 _ _ (by omega), u2_ne (by omega), p2, show 6 * len - 6 * (len - n) + 6 = 6 * n + 6 by omega]
        have hRS : RepS K 103 0 (ins A.1 n (b, f, none)) := by
          have hli := len_ins (S := A.1) (x := ((b, f, none) : Ch)) (n := n) (by omega)
          refine RepS_mk (by rw [hli, hK0, hlen]; rfl) ?_ ?_ ?_ fun c hc => ?_
          · rw [hKo _ (by omega) (by omega), if_neg (by omega)]; exact s1
          · rw [hKo _ (by omega) (by omega), if_neg (by omega)]; exact s2
          · rw [hKo _ (by omega) (by omega), if_neg (by omega)]; exact s3
          · rw [hli, hlen] at hc
            rw [ch_ins (by omega)]
            by_cases q1 : c < n
            · rw [if_pos q1]
              exact CC_o (RepS_CC j2 (by omega)) fun j hj => by rw [hKo _ (by omega) (by omega), if_neg (by omega)]
            · rw [if_neg q1]
              by_cases q2 : c = n
              · subst q2
                rw [if_pos rfl]
                exact ⟨k2, k3, k4, fun v e => by cases e⟩
              · rw [if_neg q2]
                refine CC_o (RepS_CC j2 (n := c - 1) (by omega)) fun j hj => ?_
                rw [hKo _ (by omega) (by omega), if_pos (by omega)]
                congr 1
                omega
        obtain ⟨r1, r2⟩ := j4 K _ hRS (fun i q a c => (k5 i q (by omega)).trans ((u2_ne (by omega)).trans (p1 i q a)))
        refine ⟨K, fun Q => ?_, r1, r2⟩
        have e0 := e Q
        clear e
        have f5 : (6 * len - 6 * (len - n) : Nat) = 6 * n := by omega
        rw [f5, Nat.sub_zero] at e0
        have f6 : 1 + 6 * (len : Int) - 1 = ((6 * len : Nat) : Int) := by omega
        simp (disch := first | exact cat_i _ | exact cat_r _ | exact cat_n | omega) only [u151_0, u151_1, u151_2, u151_3, u151_6, u151_7, u151_8, u151_11, u151_14, u151_15, u151_16, u151_17, u151_19, u151_21, u151_24, u151_27, u151_28, u151_31, u151_34, u151_36, u151_37, u151_38, u151_41, u151_42, u151_43, u151_45, u151_48, u151_50, u151_51, u151_52, u151_55, u151_56, u151_58, u151_59, u151_62, u151_63, u151_64, u151_65, u151_66, u151_67, u151_68, e151, hT_102, hT_103, hR_102_0, h0, c113, c114, zI_dt h1, zI_dt g1, zI_dt g2, j1, s0, f6, if_pos, if_neg, ↓reduceIte, false_and, and_false, false_or, or_false, ite_not, decide_true, decide_false, Bool.true_eq_false, Bool.false_eq_true, decide_eq_true_eq, decide_eq_false_iff_not, hp_I, hp_sI, hp_N, ev_k_s, ev_k_n, true_and, and_true, true_or, or_true, not_true_eq_false, not_false_eq_true, if_true, if_false, ite_self, Option.some.injEq, exists_eq_left', nb_0, nb_1, nb_z, zI_t, zI_f, zI_e, cat_i, cat_r, cat_n, iI_add, iI_sub, iI_mul, iI_neg, iI_lt, iI_le, iI_eq, iI_idx, iI_inT, iI_ne0, ite_false, ite_true, iN_0, iN_1, Int.reduceAdd, Int.reduceSub, Int.reduceMul, Int.reduceNeg, Int.reduceDiv, Int.reduceMod, Int.reduceEq, Int.reduceLT, Int.reduceLE, Int.reduceToNat, Nat.reduceAdd, Nat.reduceSub, Nat.reduceMul, Nat.reduceLT, Nat.reduceLeDiff, Nat.reduceEqDiff, Int.cast_ofNat_Int, Std.le_refl, and_self, Int.toNat_natCast, Int.toNat_zero, Nat.le_refl]
        refine Eq.trans e0 ?_
        simp (disch := first | exact cat_i _ | exact cat_r _ | exact cat_n | omega) only [u151_70, u151_72, u151_73, u151_75, u151_76, u151_77, u151_78, u151_104, u151_105, u151_108, u151_109, u151_110, u151_111, u151_112, u151_113, u151_114, u151_115, u151_116, u151_117, u151_118, u151_121, u151_122, u151_125, u151_126, u151_127, hT_102, hT_103, hR_102_0, g0, k1, hK0, if_pos, if_neg, ↓reduceIte, false_and, and_false, false_or, or_false, ite_not, decide_true, decide_false, Bool.true_eq_false, Bool.false_eq_true, decide_eq_true_eq, decide_eq_false_iff_not, hp_I, hp_sI, hp_N, ev_k_s, ev_k_n, true_and, and_true, true_or, or_true, not_true_eq_false, not_false_eq_true, if_true, if_false, ite_self, Option.some.injEq, exists_eq_left', nb_0, nb_1, nb_z, zI_t, zI_f, zI_e, cat_i, cat_r, cat_n, iI_add, iI_sub, iI_mul, iI_neg, iI_lt, iI_le, iI_eq, iI_idx, iI_inT, iI_ne0, ite_false, ite_true, iN_0, iN_1, Int.reduceAdd, Int.reduceSub, Int.reduceMul, Int.reduceNeg, Int.reduceDiv, Int.reduceMod, Int.reduceEq, Int.reduceLT, Int.reduceLE, Int.reduceToNat, Nat.reduceAdd, Nat.reduceSub, Nat.reduceMul, Nat.reduceLT, Nat.reduceLeDiff, Nat.reduceEqDiff, Int.cast_ofNat_Int, Std.le_refl, and_self, Int.toNat_natCast, Int.toNat_zero, Nat.le_refl]
end MB
