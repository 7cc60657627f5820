theorem vp_c : ∀ c : Nat, c < 256 → vp_nar .char (j_i2c (iI (c : Int))) = iI (c : Int) := by decide +kernel
theorem nr_c : ∀ c : Nat, c < 256 → narrow .char (.int (iI (c : Int))) = .int (iI (c : Int)) := by decide +kernel
/-- nothing but zeros from a place on -/
def rst (z : Int64) (k : Nat) : Bool := (List.range 8).all fun j => decide (j < k) || decide (cod z j = 0)
theorem rst_i (z : Int64) (k : Nat) : rst z k = true ↔ ∀ j, k ≤ j → j < 8 → cod z j = 0 := by
  unfold rst
  rw [List.all_eq_true]
  constructor
  · intro h j h1 h2
    have := h j (List.mem_range.mpr h2)
    rw [Bool.or_eq_true, decide_eq_true_eq, decide_eq_true_eq] at this
    rcases this with h | h
    · omega
    · exact h
  · intro h j hj
    rw [List.mem_range] at hj
    rw [Bool.or_eq_true, decide_eq_true_eq, decide_eq_true_eq]
    by_cases q : j < k
    · exact Or.inl q
    · exact Or.inr (h j (by omega) hj)
/-- how many characters a long tells -/
def chI (z : Int64) : Nat → Nat → Nat
  | 0, k => k
  | f + 1, k => if cod z k = 0 then (if rst z k = true then k else 0) else if cod z k < 33 ∨ 126 < cod z k then 0 else chI z f (k + 1)
def chs (z : Int64) : Nat := chI z 8 0
section PA
variable {L : Nat} {σ : Nat → Nat} {I : Nat → Nat → Int32} {A : AS} {x y p q r : Int} {Q : Option Value → fb_H → Prop} {h : fb_H} {z : Int64} {T : List Nat}
theorem c10 {k : Nat} (hk : k < 8) : ev_c 10 [.long z, .int (iI (k : Int))] h Q = Q (some (.int (iI ((cod z k : Nat) : Int)))) h := by
  have e8 : (8 : Int) * (k : Int) = ((8 * k : Nat) : Int) := by omega
  simp (disch := first | exact cat_i _ | exact cat_r _ | exact cat_n | omega) only [e10, u10_0, u10_1, u10_3, u10_4, u10_5, u10_6, u10_7, u10_10, u10_11, e8, co_c z hk, ↓reduceIte, false_and, and_false, false_or, or_false, ite_not, decide_true, decide_false, Bool.true_eq_false, Bool.false_eq_true, decide_eq_true_eq, decide_eq_false_iff_not, hp_I, hp_sI, hp_N, ev_k_s, ev_k_n, true_and, and_true, true_or, or_true, not_true_eq_false, not_false_eq_true, if_true, if_false, ite_self, Option.some.injEq, exists_eq_left', nb_0, nb_1, nb_z, zI_t, zI_f, zI_e, cat_i, cat_r, cat_n, iI_add, iI_sub, iI_mul, iI_neg, iI_lt, iI_le, iI_eq, iI_idx, iI_inT, iI_ne0, ite_false, ite_true, iN_0, iN_1, Int.reduceAdd, Int.reduceSub, Int.reduceMul, Int.reduceNeg, Int.reduceDiv, Int.reduceMod, Int.reduceEq, Int.reduceLT, Int.reduceLE, Int.reduceToNat, Nat.reduceAdd, Nat.reduceSub, Nat.reduceMul, Nat.reduceLT, Nat.reduceLeDiff, Nat.reduceEqDiff, Int.cast_ofNat_Int, Std.le_refl, and_self, Int.toNat_natCast, Int.toNat_zero, Nat.le_refl]
theorem c9i (f k : Nat) (hfk : k + f = 8) {w : Value} (hw : w.category = 1) : ev_w 9 2 [.long z, .null, .int (iI (k : Int)), w] [] h Q = Q (some (.int (iI ((chI z f k : Nat) : Int)))) h := by
  induction f generalizing k w with
  | zero =>
    have : k = 8 := by omega
    subst this
    rw [u9_2]
    simp (disch := first | exact hw | exact cat_i _ | exact cat_n | omega) only [u9_3, u9_5, u9_8, u9_9, u9_10, u9_13, u9_16, u9_17, u9_18, u9_21, u9_22, u9_23, u9_25, u9_28, u9_29, u9_31, u9_34, u9_35, u9_36, u9_39, u9_42, u9_43, u9_45, u9_48, u9_49, u9_51, u9_52, u9_53, u9_54, u9_55, u9_56, u9_59, u9_60, u9_63, u9_64, u9_65, u9_66, u9_69, u9_70, u9_73, u9_74, chI, if_pos, if_neg, ↓reduceIte, false_and, and_false, false_or, or_false, ite_not, decide_true, decide_false, Bool.true_eq_false, Bool.false_eq_true, decide_eq_true_eq, decide_eq_false_iff_not, hp_I, hp_sI, hp_N, ev_k_s, ev_k_n, true_and, and_true, true_or, or_true, not_true_eq_false, not_false_eq_true, if_true, if_false, ite_self, Option.some.injEq, exists_eq_left', nb_0, nb_1, nb_z, zI_t, zI_f, zI_e, cat_i, cat_r, cat_n, iI_add, iI_sub, iI_mul, iI_neg, iI_lt, iI_le, iI_eq, iI_idx, iI_inT, iI_ne0, ite_false, ite_true, iN_0, iN_1, Int.reduceAdd, Int.reduceSub, Int.reduceMul, Int.reduceNeg, Int.reduceDiv, Int.reduceMod, Int.reduceEq, Int.reduceLT, Int.reduceLE, Int.reduceToNat, Nat.reduceAdd, Nat.reduceSub, Nat.reduceMul, Nat.reduceLT, Nat.reduceLeDiff, Nat.reduceEqDiff, Int.cast_ofNat_Int, Std.le_refl, and_self, Int.toNat_natCast, Int.toNat_zero, Nat.le_refl]
  | succ f ih =>
    have hk : k < 8 := by omega
    have e8 : (8 : Int) * (k : Int) = ((8 * k : Nat) : Int) := by omega
    have hc := cod_lt z k
    rw [u9_2]
    unfold chI
    by_cases q0 : cod z k = 0
    · rw [if_pos q0]
      have h0 := co_0 z hk
      rw [← rst_i] at h0
      cases q1 : rst z k with
      | true =>
        rw [q1] at h0
        simp (disch := first | exact hw | exact cat_i _ | exact cat_n | omega) only [u9_3, u9_5, u9_8, u9_9, u9_10, u9_13, u9_16, u9_17, u9_18, u9_21, u9_22, u9_23, u9_25, u9_28, u9_29, u9_31, u9_34, u9_35, u9_36, u9_39, u9_42, u9_43, u9_45, u9_48, u9_49, u9_51, u9_52, u9_53, u9_54, u9_55, u9_56, u9_59, u9_60, u9_63, u9_64, u9_65, u9_66, u9_69, u9_70, u9_73, u9_74, c10 hk, q0, Int.cast_ofNat_Int, e8, h0, if_pos, if_neg, ↓reduceIte, false_and, and_false, false_or, or_false, ite_not, decide_true, decide_false, Bool.true_eq_false, Bool.false_eq_true, decide_eq_true_eq, decide_eq_false_iff_not, hp_I, hp_sI, hp_N, ev_k_s, ev_k_n, true_and, and_true, true_or, or_true, not_true_eq_false, not_false_eq_true, if_true, if_false, ite_self, Option.some.injEq, exists_eq_left', nb_0, nb_1, nb_z, zI_t, zI_f, zI_e, cat_i, cat_r, cat_n, iI_add, iI_sub, iI_mul, iI_neg, iI_lt, iI_le, iI_eq, iI_idx, iI_inT, iI_ne0, ite_false, ite_true, iN_0, iN_1, Int.reduceAdd, Int.reduceSub, Int.reduceMul, Int.reduceNeg, Int.reduceDiv, Int.reduceMod, Int.reduceEq, Int.reduceLT, Int.reduceLE, Int.reduceToNat, Nat.reduceAdd, Nat.reduceSub, Nat.reduceMul, Nat.reduceLT, Nat.reduceLeDiff, Nat.reduceEqDiff, Int.cast_ofNat_Int, Std.le_refl, and_self, Int.toNat_natCast, Int.toNat_zero, Nat.le_refl]
      | false =>
        rw [q1] at h0
        simp (disch := first | exact hw | exact cat_i _ | exact cat_n | omega) only [u9_3, u9_5, u9_8, u9_9, u9_10, u9_13, u9_16, u9_17, u9_18, u9_21, u9_22, u9_23, u9_25, u9_28, u9_29, u9_31, u9_34, u9_35, u9_36, u9_39, u9_42, u9_43, u9_45, u9_48, u9_49, u9_51, u9_52, u9_53, u9_54, u9_55, u9_56, u9_59, u9_60, u9_63, u9_64, u9_65, u9_66, u9_69, u9_70, u9_73, u9_74, c10 hk, q0, Int.cast_ofNat_Int, e8, h0, if_pos, if_neg, ↓reduceIte, false_and, and_false, false_or, or_false, ite_not, decide_true, decide_false, Bool.true_eq_false, Bool.false_eq_true, decide_eq_true_eq, decide_eq_false_iff_not, hp_I, hp_sI, hp_N, ev_k_s, ev_k_n, true_and, and_true, true_or, or_true, not_true_eq_false, not_false_eq_true, if_true, if_false, ite_self, Option.some.injEq, exists_eq_left', nb_0, nb_1, nb_z, zI_t, zI_f, zI_e, cat_i, cat_r, cat_n, iI_add, iI_sub, iI_mul, iI_neg, iI_lt, iI_le, iI_eq, iI_idx, iI_inT, iI_ne0, ite_false, ite_true, iN_0, iN_1, Int.reduceAdd, Int.reduceSub, Int.reduceMul, Int.reduceNeg, Int.reduceDiv, Int.reduceMod, Int.reduceEq, Int.reduceLT, Int.reduceLE, Int.reduceToNat, Nat.reduceAdd, Nat.reduceSub, Nat.reduceMul, Nat.reduceLT, Nat.reduceLeDiff, Nat.reduceEqDiff, Int.cast_ofNat_Int, Std.le_refl, and_self, Int.toNat_natCast, Int.toNat_zero, Nat.le_refl]
    · rw [if_neg q0]
      by_cases q1 : cod z k < 33
      · rw [if_pos (Or.inl q1)]
        simp (disch := first | exact hw | exact cat_i _ | exact cat_n | omega) only [u9_3, u9_5, u9_8, u9_9, u9_10, u9_13, u9_16, u9_17, u9_18, u9_21, u9_22, u9_23, u9_25, u9_28, u9_29, u9_31, u9_34, u9_35, u9_36, u9_39, c10 hk, if_pos, if_neg, ↓reduceIte, false_and, and_false, false_or, or_false, ite_not, decide_true, decide_false, Bool.true_eq_false, Bool.false_eq_true, decide_eq_true_eq, decide_eq_false_iff_not, hp_I, hp_sI, hp_N, ev_k_s, ev_k_n, true_and, and_true, true_or, or_true, not_true_eq_false, not_false_eq_true, if_true, if_false, ite_self, Option.some.injEq, exists_eq_left', nb_0, nb_1, nb_z, zI_t, zI_f, zI_e, cat_i, cat_r, cat_n, iI_add, iI_sub, iI_mul, iI_neg, iI_lt, iI_le, iI_eq, iI_idx, iI_inT, iI_ne0, ite_false, ite_true, iN_0, iN_1, Int.reduceAdd, Int.reduceSub, Int.reduceMul, Int.reduceNeg, Int.reduceDiv, Int.reduceMod, Int.reduceEq, Int.reduceLT, Int.reduceLE, Int.reduceToNat, Nat.reduceAdd, Nat.reduceSub, Nat.reduceMul, Nat.reduceLT, Nat.reduceLeDiff, Nat.reduceEqDiff, Int.cast_ofNat_Int, Std.le_refl, and_self, Int.toNat_natCast, Int.toNat_zero, Nat.le_refl]
      · by_cases q2 : 126 < cod z k
        · rw [if_pos (Or.inr q2)]
          simp (disch := first | exact hw | exact cat_i _ | exact cat_n | omega) only [u9_3, u9_5, u9_8, u9_9, u9_10, u9_13, u9_16, u9_17, u9_18, u9_21, u9_22, u9_23, u9_25, u9_28, u9_29, u9_31, u9_34, u9_35, u9_36, u9_39, c10 hk, if_pos, if_neg, ↓reduceIte, false_and, and_false, false_or, or_false, ite_not, decide_true, decide_false, Bool.true_eq_false, Bool.false_eq_true, decide_eq_true_eq, decide_eq_false_iff_not, hp_I, hp_sI, hp_N, ev_k_s, ev_k_n, true_and, and_true, true_or, or_true, not_true_eq_false, not_false_eq_true, if_true, if_false, ite_self, Option.some.injEq, exists_eq_left', nb_0, nb_1, nb_z, zI_t, zI_f, zI_e, cat_i, cat_r, cat_n, iI_add, iI_sub, iI_mul, iI_neg, iI_lt, iI_le, iI_eq, iI_idx, iI_inT, iI_ne0, ite_false, ite_true, iN_0, iN_1, Int.reduceAdd, Int.reduceSub, Int.reduceMul, Int.reduceNeg, Int.reduceDiv, Int.reduceMod, Int.reduceEq, Int.reduceLT, Int.reduceLE, Int.reduceToNat, Nat.reduceAdd, Nat.reduceSub, Nat.reduceMul, Nat.reduceLT, Nat.reduceLeDiff, Nat.reduceEqDiff, Int.cast_ofNat_Int, Std.le_refl, and_self, Int.toNat_natCast, Int.toNat_zero, Nat.le_refl]
        · rw [if_neg (by omega)]
          refine Eq.trans ?_ (ih (k + 1) (by omega) (w := .int (iI ((cod z k : Nat) : Int))) (cat_i _))
          simp (disch := first | exact hw | exact cat_i _ | exact cat_n | omega) only [u9_3, u9_5, u9_8, u9_9, u9_10, u9_13, u9_16, u9_17, u9_18, u9_21, u9_22, u9_23, u9_25, u9_28, u9_29, u9_31, u9_34, u9_35, u9_36, u9_39, c10 hk, if_pos, if_neg, ↓reduceIte, false_and, and_false, false_or, or_false, ite_not, decide_true, decide_false, Bool.true_eq_false, Bool.false_eq_true, decide_eq_true_eq, decide_eq_false_iff_not, hp_I, hp_sI, hp_N, ev_k_s, ev_k_n, true_and, and_true, true_or, or_true, not_true_eq_false, not_false_eq_true, if_true, if_false, ite_self, Option.some.injEq, exists_eq_left', nb_0, nb_1, nb_z, zI_t, zI_f, zI_e, cat_i, cat_r, cat_n, iI_add, iI_sub, iI_mul, iI_neg, iI_lt, iI_le, iI_eq, iI_idx, iI_inT, iI_ne0, ite_false, ite_true, iN_0, iN_1, Int.reduceAdd, Int.reduceSub, Int.reduceMul, Int.reduceNeg, Int.reduceDiv, Int.reduceMod, Int.reduceEq, Int.reduceLT, Int.reduceLE, Int.reduceToNat, Nat.reduceAdd, Nat.reduceSub, Nat.reduceMul, Nat.reduceLT, Nat.reduceLeDiff, Nat.reduceEqDiff, Int.cast_ofNat_Int, Std.le_refl, and_self, Int.toNat_natCast, Int.toNat_zero, Nat.le_refl]
          rfl
theorem c9 : ev_c 9 [.long z] h Q = Q (some (.int (iI ((chs z : Nat) : Int)))) h := by
  simp (disch := first | exact cat_i _ | exact cat_r _ | exact cat_n | omega) only [u9_0, u9_1, e9, ↓reduceIte, false_and, and_false, false_or, or_false, ite_not, decide_true, decide_false, Bool.true_eq_false, Bool.false_eq_true, decide_eq_true_eq, decide_eq_false_iff_not, hp_I, hp_sI, hp_N, ev_k_s, ev_k_n, true_and, and_true, true_or, or_true, not_true_eq_false, not_false_eq_true, if_true, if_false, ite_self, Option.some.injEq, exists_eq_left', nb_0, nb_1, nb_z, zI_t, zI_f, zI_e, cat_i, cat_r, cat_n, iI_add, iI_sub, iI_mul, iI_neg, iI_lt, iI_le, iI_eq, iI_idx, iI_inT, iI_ne0, ite_false, ite_true, iN_0, iN_1, Int.reduceAdd, Int.reduceSub, Int.reduceMul, Int.reduceNeg, Int.reduceDiv, Int.reduceMod, Int.reduceEq, Int.reduceLT, Int.reduceLE, Int.reduceToNat, Nat.reduceAdd, Nat.reduceSub, Nat.reduceMul, Nat.reduceLT, Nat.reduceLeDiff, Nat.reduceEqDiff, Int.cast_ofNat_Int, Std.le_refl, and_self, Int.toNat_natCast, Int.toNat_zero, Nat.le_refl]
  exact c9i 8 0 rfl cat_n
/-- at -/
def sgn (T : List Nat) (k : Nat) : Nat := T.getD k 0
theorem sgn_lt (hT : RepT I T) (k : Nat) : sgn T k < 256 := by
  unfold sgn
  by_cases q : k < T.length
  · rw [List.getD_eq_getElem?_getD, List.getElem?_eq_getElem q, Option.getD_some]
    have := (hT.2.2.1 _ (List.getElem_mem q)).2
    omega
  · rw [List.getD_eq_getElem?_getD, List.getElem?_eq_none (by omega)]
    decide
theorem c8 (hT : RepT I T) {k : Nat} (hk : k < 1000) : ev_c 8 [.ref 50, .int (iI (k : Int))] (hp L σ I) Q = Q (some (.int (iI ((sgn T k : Nat) : Int)))) (hp L σ I) := by
  have h80 := hT.2.1
  have hc := sgn_lt hT k
  by_cases q : k < T.length
  · simp (disch := first | exact cat_i _ | exact cat_r _ | exact cat_n | omega) only [e8, u8_0, u8_1, u8_4, u8_5, u8_6, u8_9, u8_12, u8_13, u8_16, u8_17, u8_18, u8_21, u8_22, hT_50, hT_51, hR_50_0, hT.1, hT.2.2.2 k q, if_pos, if_neg, ↓reduceIte, false_and, and_false, false_or, or_false, ite_not, decide_true, decide_false, Bool.true_eq_false, Bool.false_eq_true, decide_eq_true_eq, decide_eq_false_iff_not, hp_I, hp_sI, hp_N, ev_k_s, ev_k_n, true_and, and_true, true_or, or_true, not_true_eq_false, not_false_eq_true, if_true, if_false, ite_self, Option.some.injEq, exists_eq_left', nb_0, nb_1, nb_z, zI_t, zI_f, zI_e, cat_i, cat_r, cat_n, iI_add, iI_sub, iI_mul, iI_neg, iI_lt, iI_le, iI_eq, iI_idx, iI_inT, iI_ne0, ite_false, ite_true, iN_0, iN_1, Int.reduceAdd, Int.reduceSub, Int.reduceMul, Int.reduceNeg, Int.reduceDiv, Int.reduceMod, Int.reduceEq, Int.reduceLT, Int.reduceLE, Int.reduceToNat, Nat.reduceAdd, Nat.reduceSub, Nat.reduceMul, Nat.reduceLT, Nat.reduceLeDiff, Nat.reduceEqDiff, Int.cast_ofNat_Int, Std.le_refl, and_self, Int.toNat_natCast, Int.toNat_zero, Nat.le_refl]
    exact and_iff_right_iff_imp.mpr (fun _ => nr_c _ hc) |> propext
  · have e0 : sgn T k = 0 := by
      unfold sgn
      rw [List.getD_eq_getElem?_getD, List.getElem?_eq_none (by omega)]
      rfl
    rw [e0]
    have n0 := nr_c 0 (by decide)
    simp only [Int.cast_ofNat_Int] at n0
    simp (disch := first | exact cat_i _ | exact cat_r _ | exact cat_n | omega) only [e8, u8_0, u8_1, u8_4, u8_5, u8_6, u8_9, u8_12, u8_13, u8_16, u8_17, u8_18, u8_21, u8_22, hT_50, hT_51, hR_50_0, hT.1, n0, if_pos, if_neg, ↓reduceIte, false_and, and_false, false_or, or_false, ite_not, decide_true, decide_false, Bool.true_eq_false, Bool.false_eq_true, decide_eq_true_eq, decide_eq_false_iff_not, hp_I, hp_sI, hp_N, ev_k_s, ev_k_n, true_and, and_true, true_or, or_true, not_true_eq_false, not_false_eq_true, if_true, if_false, ite_self, Option.some.injEq, exists_eq_left', nb_0, nb_1, nb_z, zI_t, zI_f, zI_e, cat_i, cat_r, cat_n, iI_add, iI_sub, iI_mul, iI_neg, iI_lt, iI_le, iI_eq, iI_idx, iI_inT, iI_ne0, ite_false, ite_true, iN_0, iN_1, Int.reduceAdd, Int.reduceSub, Int.reduceMul, Int.reduceNeg, Int.reduceDiv, Int.reduceMod, Int.reduceEq, Int.reduceLT, Int.reduceLE, Int.reduceToNat, Nat.reduceAdd, Nat.reduceSub, Nat.reduceMul, Nat.reduceLT, Nat.reduceLeDiff, Nat.reduceEqDiff, Int.cast_ofNat_Int, Std.le_refl, and_self, Int.toNat_natCast, Int.toNat_zero, Nat.le_refl]
end PA
