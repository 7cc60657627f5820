theorem iI_shl1 {z : Int} (h1 : 0 ≤ z) (h2 : z < 31) : j_shl (iI 1) (iI z) = iI ((2 ^ z.toNat : Nat) : Int) := by
  obtain ⟨k, rfl⟩ := Int.eq_ofNat_of_zero_le h1
  have hk : k < 31 := by omega
  have hp : (2 : Nat) ^ k ≤ 2 ^ 30 := Nat.pow_le_pow_right (by omega) (by omega)
  rw [iI_shl (by omega) (by omega) (by have : ((2 : Int) ^ k) = ((2 ^ k : Nat) : Int) := by push_cast; rfl
                                       rw [this]; omega)]
  congr 1
  rw [Int.one_mul, Int.toNat_natCast]
  push_cast
  rfl
theorem iI_shrz {m : Nat} {z : Int} (h1 : 0 ≤ z) (h2 : z < 31) (hm : m < 2147483648) : j_shr (iI (m : Int)) (iI z) = iI ((m >>> z.toNat : Nat) : Int) := by
  obtain ⟨k, rfl⟩ := Int.eq_ofNat_of_zero_le h1
  rw [iI_shr (by omega) (by omega) (by omega), Nat.shiftRight_eq_div_pow, Int.toNat_natCast]
  congr 1
theorem iI_and1 (m : Nat) : iI (m : Int) &&& iI 1 = iI ((m &&& 1 : Nat) : Int) := iI_and m 1
theorem iI_and127 {p : Int} (h : 0 ≤ p) : iI p &&& iI 127 = iI (p % 128) := by
  obtain ⟨n, rfl⟩ := Int.eq_ofNat_of_zero_le h
  rw [show (127 : Int) = ((127 : Nat) : Int) from rfl, iI_and]
  congr 1
  rw [show (127 : Nat) = 2 ^ 7 - 1 from rfl, Nat.and_two_pow_sub_one_eq_mod]
  push_cast
  rfl
theorem iI_shr7 {p : Int} (k : Nat) (hk : k < 32) (h : 0 ≤ p) (h2 : p < 2147483648) : j_shr (iI p) (iI (k : Int)) = iI (p / 2 ^ k) := iI_shr h h2 hk
def dif (m p : Nat) : Nat := m ^^^ (m &&& p)
theorem dif_bit (m p k : Nat) : (dif m p).testBit k = (m.testBit k && !p.testBit k) := by
  unfold dif
  rw [Nat.testBit_xor, Nat.testBit_and]
  cases m.testBit k <;> cases p.testBit k <;> rfl
theorem dif_dif (m p q : Nat) : dif (dif m p) q = dif m (p ||| q) := by
  apply Nat.eq_of_testBit_eq
  intro k
  rw [dif_bit, dif_bit, dif_bit, Nat.testBit_or]
  cases m.testBit k <;> cases p.testBit k <;> cases q.testBit k <;> rfl
theorem iI_dif {m p : Nat} : iI (m : Int) &&& (iI (p : Int) ^^^ iI (-1)) = iI ((dif m p : Nat) : Int) := by
  rw [iI_nI, iI_nI, iI_nI, show iI (-1) = Int32.ofNat (2 ^ 32 - 1) from by decide +kernel]
  apply Int32.toBitVec_inj.mp
  show BitVec.ofNat 32 m &&& (BitVec.ofNat 32 p ^^^ BitVec.ofNat 32 (2 ^ 32 - 1)) = BitVec.ofNat 32 (dif m p)
  apply BitVec.eq_of_getLsbD_eq
  intro i hi
  simp only [BitVec.getLsbD_and, BitVec.getLsbD_xor, BitVec.getLsbD_ofNat, dif_bit, hi, decide_true, Bool.true_and]
  rw [Nat.testBit_two_pow_sub_one]
  simp [hi]
section NU
variable {h : fb_H} {Q : Option Value → fb_H → Prop} {c d : Int} {n m : Nat}
theorem Qi {x y : Int} (e : x = y) : Q (some (.int (iI x))) h = Q (some (.int (iI y))) h := by rw [e]
theorem c186 (h1 : -2147483647 ≤ c) (h2 : c < 2147483648) : ev_c 186 [.int (iI c)] h Q = Q (some (.int (iI (c.natAbs : Int)))) h := by
  simp (disch := omega) only [e186, u186_0, u186_1, u186_4, u186_5, u186_6, u186_9, u186_10, ↓reduceIte, false_and, and_false, false_or, or_false, ite_not, decide_true, decide_false, Bool.true_eq_false, Bool.false_eq_true, decide_eq_true_eq, decide_eq_false_iff_not, hp_I, hp_sI, hp_N, ev_k_s, ev_k_n, true_and, and_true, true_or, or_true, not_true_eq_false, not_false_eq_true, if_true, if_false, ite_self, Option.some.injEq, exists_eq_left', nb_0, nb_1, nb_z, zI_t, zI_f, zI_e, cat_i, cat_r, cat_n, iI_add, iI_sub, iI_mul, iI_neg, iI_lt, iI_le, iI_eq, iI_idx, iI_inT, iI_ne0, ite_false, ite_true, iN_0, iN_1, Int.reduceAdd, Int.reduceSub, Int.reduceMul, Int.reduceNeg, Int.reduceDiv, Int.reduceMod, Int.reduceEq, Int.reduceLT, Int.reduceLE, Int.reduceToNat, Nat.reduceAdd, Nat.reduceSub, Nat.reduceMul, Nat.reduceLT, Nat.reduceLeDiff, Nat.reduceEqDiff, Int.cast_ofNat_Int, Std.le_refl, and_self, Int.toNat_natCast, Int.toNat_zero, Nat.le_refl]
  split
  · rw [show (c.natAbs : Int) = c by omega]
  · rw [show (c.natAbs : Int) = -c by omega]
theorem c187 (h1 : -2147483647 ≤ c) (h2 : c < 2147483648) (h3 : -2147483647 ≤ d) (h4 : d < 2147483648) : ev_c 187 [.int (iI c), .int (iI d)] h Q = Q (some (.int (iI (max c d)))) h := by
  simp (disch := omega) only [e187, u187_0, u187_1, u187_2, u187_5, u187_6, u187_9, u187_10, ↓reduceIte, false_and, and_false, false_or, or_false, ite_not, decide_true, decide_false, Bool.true_eq_false, Bool.false_eq_true, decide_eq_true_eq, decide_eq_false_iff_not, hp_I, hp_sI, hp_N, ev_k_s, ev_k_n, true_and, and_true, true_or, or_true, not_true_eq_false, not_false_eq_true, if_true, if_false, ite_self, Option.some.injEq, exists_eq_left', nb_0, nb_1, nb_z, zI_t, zI_f, zI_e, cat_i, cat_r, cat_n, iI_add, iI_sub, iI_mul, iI_neg, iI_lt, iI_le, iI_eq, iI_idx, iI_inT, iI_ne0, ite_false, ite_true, iN_0, iN_1, Int.reduceAdd, Int.reduceSub, Int.reduceMul, Int.reduceNeg, Int.reduceDiv, Int.reduceMod, Int.reduceEq, Int.reduceLT, Int.reduceLE, Int.reduceToNat, Nat.reduceAdd, Nat.reduceSub, Nat.reduceMul, Nat.reduceLT, Nat.reduceLeDiff, Nat.reduceEqDiff, Int.cast_ofNat_Int, Std.le_refl, and_self, Int.toNat_natCast, Int.toNat_zero, Nat.le_refl]
  split
  · rw [show max c d = d by omega]
  · rw [show max c d = c by omega]
theorem c105 (h1 : -100000 ≤ c) (h2 : c < 100000) : ev_c 105 [.int (iI c)] h Q = Q (some (.int (iI (c % 12)))) h := by
  by_cases hc : 0 ≤ c
  · simp (disch := first | exact cat_i _ | exact cat_r _ | exact cat_n | omega) only [e105, u105_0, u105_1, u105_3, u105_4, u105_5, u105_6, u105_9, u105_10, u105_12, u105_13, u105_16, u105_17, iI_rem, ↓reduceIte, false_and, and_false, false_or, or_false, ite_not, decide_true, decide_false, Bool.true_eq_false, Bool.false_eq_true, decide_eq_true_eq, decide_eq_false_iff_not, hp_I, hp_sI, hp_N, ev_k_s, ev_k_n, true_and, and_true, true_or, or_true, not_true_eq_false, not_false_eq_true, if_true, if_false, ite_self, Option.some.injEq, exists_eq_left', nb_0, nb_1, nb_z, zI_t, zI_f, zI_e, cat_i, cat_r, cat_n, iI_add, iI_sub, iI_mul, iI_neg, iI_lt, iI_le, iI_eq, iI_idx, iI_inT, iI_ne0, ite_false, ite_true, iN_0, iN_1, Int.reduceAdd, Int.reduceSub, Int.reduceMul, Int.reduceNeg, Int.reduceDiv, Int.reduceMod, Int.reduceEq, Int.reduceLT, Int.reduceLE, Int.reduceToNat, Nat.reduceAdd, Nat.reduceSub, Nat.reduceMul, Nat.reduceLT, Nat.reduceLeDiff, Nat.reduceEqDiff, Int.cast_ofNat_Int, Std.le_refl, and_self, Int.toNat_natCast, Int.toNat_zero, Nat.le_refl]
    repeat' split
    all_goals first | exact Qi (by omega) | (exfalso; omega)
  · simp (disch := first | exact cat_i _ | exact cat_r _ | exact cat_n | omega) only [e105, u105_0, u105_1, u105_3, u105_4, u105_5, u105_6, u105_9, u105_10, u105_12, u105_13, u105_16, u105_17, iI_remN, ↓reduceIte, false_and, and_false, false_or, or_false, ite_not, decide_true, decide_false, Bool.true_eq_false, Bool.false_eq_true, decide_eq_true_eq, decide_eq_false_iff_not, hp_I, hp_sI, hp_N, ev_k_s, ev_k_n, true_and, and_true, true_or, or_true, not_true_eq_false, not_false_eq_true, if_true, if_false, ite_self, Option.some.injEq, exists_eq_left', nb_0, nb_1, nb_z, zI_t, zI_f, zI_e, cat_i, cat_r, cat_n, iI_add, iI_sub, iI_mul, iI_neg, iI_lt, iI_le, iI_eq, iI_idx, iI_inT, iI_ne0, ite_false, ite_true, iN_0, iN_1, Int.reduceAdd, Int.reduceSub, Int.reduceMul, Int.reduceNeg, Int.reduceDiv, Int.reduceMod, Int.reduceEq, Int.reduceLT, Int.reduceLE, Int.reduceToNat, Nat.reduceAdd, Nat.reduceSub, Nat.reduceMul, Nat.reduceLT, Nat.reduceLeDiff, Nat.reduceEqDiff, Int.cast_ofNat_Int, Std.le_refl, and_self, Int.toNat_natCast, Int.toNat_zero, Nat.le_refl]
    repeat' split
    all_goals first | exact Qi (by omega) | (exfalso; omega)
theorem c106 (hm : m < 2147483648) (h1 : 0 ≤ c) (h2 : c < 31) : ev_c 106 [.int (iI m), .int (iI c)] h Q = Q (some (.int (zI (m.testBit c.toNat)))) h := by
  have hb : m.testBit c.toNat = decide (m >>> c.toNat &&& 1 ≠ 0) := by
    unfold Nat.testBit
    rw [Nat.and_comm]
    cases Nat.decEq (m >>> c.toNat &&& 1) 0 with
    | isTrue e => rw [e]; rfl
    | isFalse e => rw [decide_eq_true e]; exact bne_iff_ne.mpr e
  have hl : m >>> c.toNat &&& 1 ≤ 1 := Nat.and_le_right
  simp (disch := omega) only [e106, u106_0, u106_1, u106_2, u106_3, u106_4, u106_5, u106_8, u106_9, u106_12, u106_13, iI_shrz, iI_and1, ↓reduceIte, false_and, and_false, false_or, or_false, ite_not, decide_true, decide_false, Bool.true_eq_false, Bool.false_eq_true, decide_eq_true_eq, decide_eq_false_iff_not, hp_I, hp_sI, hp_N, ev_k_s, ev_k_n, true_and, and_true, true_or, or_true, not_true_eq_false, not_false_eq_true, if_true, if_false, ite_self, Option.some.injEq, exists_eq_left', nb_0, nb_1, nb_z, zI_t, zI_f, zI_e, cat_i, cat_r, cat_n, iI_add, iI_sub, iI_mul, iI_neg, iI_lt, iI_le, iI_eq, iI_idx, iI_inT, iI_ne0, ite_false, ite_true, iN_0, iN_1, Int.reduceAdd, Int.reduceSub, Int.reduceMul, Int.reduceNeg, Int.reduceDiv, Int.reduceMod, Int.reduceEq, Int.reduceLT, Int.reduceLE, Int.reduceToNat, Nat.reduceAdd, Nat.reduceSub, Nat.reduceMul, Nat.reduceLT, Nat.reduceLeDiff, Nat.reduceEqDiff, Int.cast_ofNat_Int, Std.le_refl, and_self, Int.toNat_natCast, Int.toNat_zero, Nat.le_refl]
  rw [hb]
  split
  · rw [zI_df (by omega)]
  · rw [zI_dt (by omega)]
theorem c107_5 : ev_c 107 [.int (iI 5)] h Q = Q (some (.int (iI 21))) h := by
  rw [e107, u107_0, u107_1_5]
  simp only [e107, u107_0, u107_44, u107_46, u107_47, u107_49, u107_50, u107_52, u107_53, u107_55, u107_56, u107_57, ↓reduceIte, false_and, and_false, false_or, or_false, ite_not, decide_true, decide_false, Bool.true_eq_false, Bool.false_eq_true, decide_eq_true_eq, decide_eq_false_iff_not, hp_I, hp_sI, hp_N, ev_k_s, ev_k_n, true_and, and_true, true_or, or_true, not_true_eq_false, not_false_eq_true, if_true, if_false, ite_self, Option.some.injEq, exists_eq_left', nb_0, nb_1, nb_z, zI_t, zI_f, zI_e, cat_i, cat_r, cat_n, iI_add, iI_sub, iI_mul, iI_neg, iI_lt, iI_le, iI_eq, iI_idx, iI_inT, iI_ne0, ite_false, ite_true, iN_0, iN_1, Int.reduceAdd, Int.reduceSub, Int.reduceMul, Int.reduceNeg, Int.reduceDiv, Int.reduceMod, Int.reduceEq, Int.reduceLT, Int.reduceLE, Int.reduceToNat, Nat.reduceAdd, Nat.reduceSub, Nat.reduceMul, Nat.reduceLT, Nat.reduceLeDiff, Nat.reduceEqDiff, Int.cast_ofNat_Int, Std.le_refl, and_self, Int.toNat_natCast, Int.toNat_zero, Nat.le_refl]
theorem c107_6 : ev_c 107 [.int (iI 6)] h Q = Q (some (.int (iI 37))) h := by
  rw [e107, u107_0, u107_1_6]
  simp only [e107, u107_0, u107_44, u107_46, u107_47, u107_49, u107_50, u107_52, u107_53, u107_55, u107_56, u107_57, ↓reduceIte, false_and, and_false, false_or, or_false, ite_not, decide_true, decide_false, Bool.true_eq_false, Bool.false_eq_true, decide_eq_true_eq, decide_eq_false_iff_not, hp_I, hp_sI, hp_N, ev_k_s, ev_k_n, true_and, and_true, true_or, or_true, not_true_eq_false, not_false_eq_true, if_true, if_false, ite_self, Option.some.injEq, exists_eq_left', nb_0, nb_1, nb_z, zI_t, zI_f, zI_e, cat_i, cat_r, cat_n, iI_add, iI_sub, iI_mul, iI_neg, iI_lt, iI_le, iI_eq, iI_idx, iI_inT, iI_ne0, ite_false, ite_true, iN_0, iN_1, Int.reduceAdd, Int.reduceSub, Int.reduceMul, Int.reduceNeg, Int.reduceDiv, Int.reduceMod, Int.reduceEq, Int.reduceLT, Int.reduceLE, Int.reduceToNat, Nat.reduceAdd, Nat.reduceSub, Nat.reduceMul, Nat.reduceLT, Nat.reduceLeDiff, Nat.reduceEqDiff, Int.cast_ofNat_Int, Std.le_refl, and_self, Int.toNat_natCast, Int.toNat_zero, Nat.le_refl]
theorem c107_64 : ev_c 107 [.int (iI 64)] h Q = Q (some (.int (iI 41))) h := by
  rw [e107, u107_0, u107_1_64]
  simp only [e107, u107_0, u107_44, u107_46, u107_47, u107_49, u107_50, u107_52, u107_53, u107_55, u107_56, u107_57, ↓reduceIte, false_and, and_false, false_or, or_false, ite_not, decide_true, decide_false, Bool.true_eq_false, Bool.false_eq_true, decide_eq_true_eq, decide_eq_false_iff_not, hp_I, hp_sI, hp_N, ev_k_s, ev_k_n, true_and, and_true, true_or, or_true, not_true_eq_false, not_false_eq_true, if_true, if_false, ite_self, Option.some.injEq, exists_eq_left', nb_0, nb_1, nb_z, zI_t, zI_f, zI_e, cat_i, cat_r, cat_n, iI_add, iI_sub, iI_mul, iI_neg, iI_lt, iI_le, iI_eq, iI_idx, iI_inT, iI_ne0, ite_false, ite_true, iN_0, iN_1, Int.reduceAdd, Int.reduceSub, Int.reduceMul, Int.reduceNeg, Int.reduceDiv, Int.reduceMod, Int.reduceEq, Int.reduceLT, Int.reduceLE, Int.reduceToNat, Nat.reduceAdd, Nat.reduceSub, Nat.reduceMul, Nat.reduceLT, Nat.reduceLeDiff, Nat.reduceEqDiff, Int.cast_ofNat_Int, Std.le_refl, and_self, Int.toNat_natCast, Int.toNat_zero, Nat.le_refl]
theorem c107_7 : ev_c 107 [.int (iI 7)] h Q = Q (some (.int (iI 85))) h := by
  rw [e107, u107_0, u107_1_7]
  simp only [e107, u107_0, u107_44, u107_46, u107_47, u107_49, u107_50, u107_52, u107_53, u107_55, u107_56, u107_57, ↓reduceIte, false_and, and_false, false_or, or_false, ite_not, decide_true, decide_false, Bool.true_eq_false, Bool.false_eq_true, decide_eq_true_eq, decide_eq_false_iff_not, hp_I, hp_sI, hp_N, ev_k_s, ev_k_n, true_and, and_true, true_or, or_true, not_true_eq_false, not_false_eq_true, if_true, if_false, ite_self, Option.some.injEq, exists_eq_left', nb_0, nb_1, nb_z, zI_t, zI_f, zI_e, cat_i, cat_r, cat_n, iI_add, iI_sub, iI_mul, iI_neg, iI_lt, iI_le, iI_eq, iI_idx, iI_inT, iI_ne0, ite_false, ite_true, iN_0, iN_1, Int.reduceAdd, Int.reduceSub, Int.reduceMul, Int.reduceNeg, Int.reduceDiv, Int.reduceMod, Int.reduceEq, Int.reduceLT, Int.reduceLE, Int.reduceToNat, Nat.reduceAdd, Nat.reduceSub, Nat.reduceMul, Nat.reduceLT, Nat.reduceLeDiff, Nat.reduceEqDiff, Int.cast_ofNat_Int, Std.le_refl, and_self, Int.toNat_natCast, Int.toNat_zero, Nat.le_refl]
theorem c107_0 (h1 : -2147483648 ≤ c) (h2 : c < 2147483648) (h3 : c ≠ 5 ∧ c ≠ 6 ∧ c ≠ 64 ∧ c ≠ 7) : ev_c 107 [.int (iI c)] h Q = Q (some (.int (iI 0))) h := by
  have e : ∀ d : Int, -2147483648 ≤ d → d < 2147483648 → c ≠ d → ¬ iI c = iI d := fun d a b w => by rw [iI_eq h1 h2 a b]; exact w
  rw [e107, u107_0, u107_1 (e 5 (by omega) (by omega) h3.1) (e 6 (by omega) (by omega) h3.2.1) (e 7 (by omega) (by omega) h3.2.2.2) (e 64 (by omega) (by omega) h3.2.2.1)]
  simp only [e107, u107_0, u107_44, u107_46, u107_47, u107_49, u107_50, u107_52, u107_53, u107_55, u107_56, u107_57, ↓reduceIte, false_and, and_false, false_or, or_false, ite_not, decide_true, decide_false, Bool.true_eq_false, Bool.false_eq_true, decide_eq_true_eq, decide_eq_false_iff_not, hp_I, hp_sI, hp_N, ev_k_s, ev_k_n, true_and, and_true, true_or, or_true, not_true_eq_false, not_false_eq_true, if_true, if_false, ite_self, Option.some.injEq, exists_eq_left', nb_0, nb_1, nb_z, zI_t, zI_f, zI_e, cat_i, cat_r, cat_n, iI_add, iI_sub, iI_mul, iI_neg, iI_lt, iI_le, iI_eq, iI_idx, iI_inT, iI_ne0, ite_false, ite_true, iN_0, iN_1, Int.reduceAdd, Int.reduceSub, Int.reduceMul, Int.reduceNeg, Int.reduceDiv, Int.reduceMod, Int.reduceEq, Int.reduceLT, Int.reduceLE, Int.reduceToNat, Nat.reduceAdd, Nat.reduceSub, Nat.reduceMul, Nat.reduceLT, Nat.reduceLeDiff, Nat.reduceEqDiff, Int.cast_ofNat_Int, Std.le_refl, and_self, Int.toNat_natCast, Int.toNat_zero, Nat.le_refl]
def pk4 (b : Nat) (v : Nat × Nat × Nat) : Nat := b * 2097152 + pkv v
theorem c109 {v : Nat × Nat × Nat} (hv : VV v) : ev_c 109 [.int (iI v.1), .int (iI v.2.1), .int (iI v.2.2)] h Q = Q (some (.int (iI (pkv v)))) h := by
  obtain ⟨h1, h2, h3⟩ := hv
  obtain ⟨t, a, s⟩ := v
  dsimp only at h1 h2 h3
  have e1 : j_shl (iI (t : Int)) (iI 7) = iI ((2 ^ 7 * t : Nat) : Int) := by
    rw [show (7 : Int) = ((7 : Nat) : Int) from rfl, iI_shl (by omega) (by omega) (by omega)]
    congr 1
    push_cast
    omega
  have e2 : iI ((2 ^ 7 * t : Nat) : Int) ||| iI (a : Int) = iI ((2 ^ 7 * t + a : Nat) : Int) := by rw [iI_or, Nat.two_pow_add_eq_or_of_lt (show a < 2 ^ 7 by omega)]
  have e3 : j_shl (iI ((2 ^ 7 * t + a : Nat) : Int)) (iI 7) = iI ((2 ^ 7 * (2 ^ 7 * t + a) : Nat) : Int) := by
    rw [show (7 : Int) = ((7 : Nat) : Int) from rfl, iI_shl (by omega) (by omega) (by omega)]
    congr 1
    push_cast
    omega
  have e4 : iI ((2 ^ 7 * (2 ^ 7 * t + a) : Nat) : Int) ||| iI (s : Int) = iI ((pkv (t, a, s) : Nat) : Int) := by
    rw [iI_or, ← Nat.two_pow_add_eq_or_of_lt (show s < 2 ^ 7 by omega)]
    congr 2
    show _ = t * 16384 + a * 128 + s
    omega
  simp only [e109, u109_0, u109_1, u109_3, u109_4, u109_5, u109_6, u109_8, u109_9, u109_10, u109_11, e1, e2, e3, e4]
theorem c110_0 {b : Nat} {v : Nat × Nat × Nat} (hb : b ≤ 127) (hv : VV v) : ev_c 110 [.int (iI (pk4 b v)), .int (iI 0)] h Q = Q (some (.int (iI ((b : Nat) : Int)))) h := by
  obtain ⟨h1, h2, h3⟩ := hv
  obtain ⟨t, a, s⟩ := v
  dsimp only at h1 h2 h3
  have h4 : pk4 b (t, a, s) = b * 2097152 + (t * 16384 + a * 128 + s) := rfl
  have e1 := iI_shr7 (p := (pk4 b (t, a, s) : Int)) 21 (by omega) (by omega) (by omega)
  simp (disch := omega) only [e110, u110_0, u110_1, u110_3, u110_4, u110_5, u110_6, u110_7, u110_8, u110_10, u110_11, Int.cast_ofNat_Int, iI_and127, ↓reduceIte, false_and, and_false, false_or, or_false, ite_not, decide_true, decide_false, Bool.true_eq_false, Bool.false_eq_true, decide_eq_true_eq, decide_eq_false_iff_not, hp_I, hp_sI, hp_N, ev_k_s, ev_k_n, true_and, and_true, true_or, or_true, not_true_eq_false, not_false_eq_true, if_true, if_false, ite_self, Option.some.injEq, exists_eq_left', nb_0, nb_1, nb_z, zI_t, zI_f, zI_e, cat_i, cat_r, cat_n, iI_add, iI_sub, iI_mul, iI_neg, iI_lt, iI_le, iI_eq, iI_idx, iI_inT, iI_ne0, ite_false, ite_true, iN_0, iN_1, Int.reduceAdd, Int.reduceSub, Int.reduceMul, Int.reduceNeg, Int.reduceDiv, Int.reduceMod, Int.reduceEq, Int.reduceLT, Int.reduceLE, Int.reduceToNat, Nat.reduceAdd, Nat.reduceSub, Nat.reduceMul, Nat.reduceLT, Nat.reduceLeDiff, Nat.reduceEqDiff, Int.cast_ofNat_Int, Std.le_refl, and_self, Int.toNat_natCast, Int.toNat_zero, Nat.le_refl] at e1 ⊢
  rw [e1, iI_and127 (by omega)]
  exact Qi (by omega)
theorem c110_1 {b : Nat} {v : Nat × Nat × Nat} (hb : b ≤ 127) (hv : VV v) : ev_c 110 [.int (iI (pk4 b v)), .int (iI 1)] h Q = Q (some (.int (iI ((v.1 : Nat) : Int)))) h := by
  obtain ⟨h1, h2, h3⟩ := hv
  obtain ⟨t, a, s⟩ := v
  dsimp only at h1 h2 h3
  have h4 : pk4 b (t, a, s) = b * 2097152 + (t * 16384 + a * 128 + s) := rfl
  have e1 := iI_shr7 (p := (pk4 b (t, a, s) : Int)) 14 (by omega) (by omega) (by omega)
  simp (disch := omega) only [e110, u110_0, u110_1, u110_3, u110_4, u110_5, u110_6, u110_7, u110_8, u110_10, u110_11, Int.cast_ofNat_Int, iI_and127, ↓reduceIte, false_and, and_false, false_or, or_false, ite_not, decide_true, decide_false, Bool.true_eq_false, Bool.false_eq_true, decide_eq_true_eq, decide_eq_false_iff_not, hp_I, hp_sI, hp_N, ev_k_s, ev_k_n, true_and, and_true, true_or, or_true, not_true_eq_false, not_false_eq_true, if_true, if_false, ite_self, Option.some.injEq, exists_eq_left', nb_0, nb_1, nb_z, zI_t, zI_f, zI_e, cat_i, cat_r, cat_n, iI_add, iI_sub, iI_mul, iI_neg, iI_lt, iI_le, iI_eq, iI_idx, iI_inT, iI_ne0, ite_false, ite_true, iN_0, iN_1, Int.reduceAdd, Int.reduceSub, Int.reduceMul, Int.reduceNeg, Int.reduceDiv, Int.reduceMod, Int.reduceEq, Int.reduceLT, Int.reduceLE, Int.reduceToNat, Nat.reduceAdd, Nat.reduceSub, Nat.reduceMul, Nat.reduceLT, Nat.reduceLeDiff, Nat.reduceEqDiff, Int.cast_ofNat_Int, Std.le_refl, and_self, Int.toNat_natCast, Int.toNat_zero, Nat.le_refl] at e1 ⊢
  rw [e1, iI_and127 (by omega)]
  exact Qi (by omega)
theorem c110_2 {b : Nat} {v : Nat × Nat × Nat} (hb : b ≤ 127) (hv : VV v) : ev_c 110 [.int (iI (pk4 b v)), .int (iI 2)] h Q = Q (some (.int (iI ((v.2.1 : Nat) : Int)))) h := by
  obtain ⟨h1, h2, h3⟩ := hv
  obtain ⟨t, a, s⟩ := v
  dsimp only at h1 h2 h3
  have h4 : pk4 b (t, a, s) = b * 2097152 + (t * 16384 + a * 128 + s) := rfl
  have e1 := iI_shr7 (p := (pk4 b (t, a, s) : Int)) 7 (by omega) (by omega) (by omega)
  simp (disch := omega) only [e110, u110_0, u110_1, u110_3, u110_4, u110_5, u110_6, u110_7, u110_8, u110_10, u110_11, Int.cast_ofNat_Int, iI_and127, ↓reduceIte, false_and, and_false, false_or, or_false, ite_not, decide_true, decide_false, Bool.true_eq_false, Bool.false_eq_true, decide_eq_true_eq, decide_eq_false_iff_not, hp_I, hp_sI, hp_N, ev_k_s, ev_k_n, true_and, and_true, true_or, or_true, not_true_eq_false, not_false_eq_true, if_true, if_false, ite_self, Option.some.injEq, exists_eq_left', nb_0, nb_1, nb_z, zI_t, zI_f, zI_e, cat_i, cat_r, cat_n, iI_add, iI_sub, iI_mul, iI_neg, iI_lt, iI_le, iI_eq, iI_idx, iI_inT, iI_ne0, ite_false, ite_true, iN_0, iN_1, Int.reduceAdd, Int.reduceSub, Int.reduceMul, Int.reduceNeg, Int.reduceDiv, Int.reduceMod, Int.reduceEq, Int.reduceLT, Int.reduceLE, Int.reduceToNat, Nat.reduceAdd, Nat.reduceSub, Nat.reduceMul, Nat.reduceLT, Nat.reduceLeDiff, Nat.reduceEqDiff, Int.cast_ofNat_Int, Std.le_refl, and_self, Int.toNat_natCast, Int.toNat_zero, Nat.le_refl] at e1 ⊢
  rw [e1, iI_and127 (by omega)]
  exact Qi (by omega)
theorem c110_3 {b : Nat} {v : Nat × Nat × Nat} (hb : b ≤ 127) (hv : VV v) : ev_c 110 [.int (iI (pk4 b v)), .int (iI 3)] h Q = Q (some (.int (iI ((v.2.2 : Nat) : Int)))) h := by
  obtain ⟨h1, h2, h3⟩ := hv
  obtain ⟨t, a, s⟩ := v
  dsimp only at h1 h2 h3
  have h4 : pk4 b (t, a, s) = b * 2097152 + (t * 16384 + a * 128 + s) := rfl
  have e1 := iI_shr7 (p := (pk4 b (t, a, s) : Int)) 0 (by omega) (by omega) (by omega)
  simp (disch := omega) only [e110, u110_0, u110_1, u110_3, u110_4, u110_5, u110_6, u110_7, u110_8, u110_10, u110_11, Int.cast_ofNat_Int, iI_and127, ↓reduceIte, false_and, and_false, false_or, or_false, ite_not, decide_true, decide_false, Bool.true_eq_false, Bool.false_eq_true, decide_eq_true_eq, decide_eq_false_iff_not, hp_I, hp_sI, hp_N, ev_k_s, ev_k_n, true_and, and_true, true_or, or_true, not_true_eq_false, not_false_eq_true, if_true, if_false, ite_self, Option.some.injEq, exists_eq_left', nb_0, nb_1, nb_z, zI_t, zI_f, zI_e, cat_i, cat_r, cat_n, iI_add, iI_sub, iI_mul, iI_neg, iI_lt, iI_le, iI_eq, iI_idx, iI_inT, iI_ne0, ite_false, ite_true, iN_0, iN_1, Int.reduceAdd, Int.reduceSub, Int.reduceMul, Int.reduceNeg, Int.reduceDiv, Int.reduceMod, Int.reduceEq, Int.reduceLT, Int.reduceLE, Int.reduceToNat, Nat.reduceAdd, Nat.reduceSub, Nat.reduceMul, Nat.reduceLT, Nat.reduceLeDiff, Nat.reduceEqDiff, Int.cast_ofNat_Int, Std.le_refl, and_self, Int.toNat_natCast, Int.toNat_zero, Nat.le_refl] at e1 ⊢
  rw [e1, iI_and127 (by omega)]
  exact Qi (by omega)
end NU
