/-! the four voices that are sung, and those that were heard -/
def w4 (I : Nat → Nat → Int32) (a b : Nat) (v : Nat × Nat × Nat) : Nat → Nat → Int32 := fb_u2 (fb_u2 (fb_u2 (fb_u2 I a 0 (iI (b : Int))) a 1 (iI (v.1 : Int))) a 2 (iI (v.2.1 : Int))) a 3 (iI (v.2.2 : Int))
def R4 (I : Nat → Nat → Int32) (a b : Nat) (v : Nat × Nat × Nat) : Prop := I a 0 = iI (b : Int) ∧ I a 1 = iI (v.1 : Int) ∧ I a 2 = iI (v.2.1 : Int) ∧ I a 3 = iI (v.2.2 : Int)
theorem w4_o {I : Nat → Nat → Int32} {a b i q : Nat} {v : Nat × Nat × Nat} (h : i ≠ a) : w4 I a b v i q = I i q := by
  unfold w4
  rw [u2_ne (by omega), u2_ne (by omega), u2_ne (by omega), u2_ne (by omega)]
theorem w4_R {I : Nat → Nat → Int32} {a b : Nat} {v : Nat × Nat × Nat} : R4 (w4 I a b v) a b v := by
  unfold w4
  refine ⟨?_, ?_, ?_, ?_⟩
  · rw [u2_ne (by omega), u2_ne (by omega), u2_ne (by omega), u2_eq]
  · rw [u2_ne (by omega), u2_ne (by omega), u2_eq]
  · rw [u2_ne (by omega), u2_eq]
  · rw [u2_eq]
theorem R4_o {I J : Nat → Nat → Int32} {a b : Nat} {v : Nat × Nat × Nat} (hr : R4 I a b v) (h : ∀ q, J a q = I a q) : R4 J a b v := by
  obtain ⟨h1, h2, h3, h4⟩ := hr
  exact ⟨(h _).trans h1, (h _).trans h2, (h _).trans h3, (h _).trans h4⟩
theorem R4_k {I : Nat → Nat → Int32} {a b : Nat} {v : Nat × Nat × Nat} (hr : R4 I a b v) {k : Nat} (hk : k < 4) : I a k = iI ((nt b v k : Nat) : Int) := by
  obtain ⟨h1, h2, h3, h4⟩ := hr
  match k, hk with
  | 0, _ => exact h1
  | 1, _ => exact h2
  | 2, _ => exact h3
  | 3, _ => exact h4
section MT
variable {L : Nat} {σ : Nat → Nat} {I J : Nat → Nat → Int32} {Q : Option Value → fb_H → Prop} {h : fb_H} {x y z : Int} {S : Co} {n m a o b b' : Nat} {v w : Nat × Nat × Nat}
/-- sings, hears -/
theorem c130 (hr : RepS I 103 0 S) (hl : S.2.length ≤ 10) (hn : n < S.2.length) (v : Nat × Nat × Nat) : ev_c 130 [.ref 102, .int (iI (n : Int)), .int (iI (v.1 : Int)), .int (iI (v.2.1 : Int)), .int (iI (v.2.2 : Int))] (hp L σ I) Q = Q none (hp L σ (w4 I 109 (ch S n).1 v)) := by
  have e0 := fun Q => c117_0 (L := L) (σ := σ) (Q := Q) hr hl hn
  simp (disch := first | exact cat_i _ | exact cat_r _ | exact cat_n | omega) only [e130, u130_0, u130_1, u130_4, u130_5, u130_6, u130_7, u130_8, u130_11, u130_12, u130_13, u130_16, u130_17, u130_18, u130_19, u130_20, u130_23, u130_24, u130_25, u130_26, u130_27, u130_30, u130_31, u130_33, u130_34, hT_102, hT_109, hR_102_8, e0, if_pos, if_neg, ↓reduceIte, false_and, and_false, false_or, or_false, ite_not, decide_true, decide_false, Bool.true_eq_false, Bool.false_eq_true, decide_eq_true_eq, decide_eq_false_iff_not, hp_I, hp_sI, hp_N, ev_k_s, ev_k_n, true_and, and_true, true_or, or_true, not_true_eq_false, not_false_eq_true, if_true, if_false, ite_self, Option.some.injEq, exists_eq_left', nb_0, nb_1, nb_z, zI_t, zI_f, zI_e, cat_i, cat_r, cat_n, iI_add, iI_sub, iI_mul, iI_neg, iI_lt, iI_le, iI_eq, iI_idx, iI_inT, iI_ne0, ite_false, ite_true, iN_0, iN_1, Int.reduceAdd, Int.reduceSub, Int.reduceMul, Int.reduceNeg, Int.reduceDiv, Int.reduceMod, Int.reduceEq, Int.reduceLT, Int.reduceLE, Int.reduceToNat, Nat.reduceAdd, Nat.reduceSub, Nat.reduceMul, Nat.reduceLT, Nat.reduceLeDiff, Nat.reduceEqDiff, Int.cast_ofNat_Int, Std.le_refl, and_self, Int.toNat_natCast, Int.toNat_zero, Nat.le_refl]
  rfl
theorem c131 (hr : RepS I 103 0 S) (hl : S.2.length ≤ 10) (hn : n < S.2.length) (v : Nat × Nat × Nat) : ev_c 131 [.ref 102, .int (iI (n : Int)), .int (iI (v.1 : Int)), .int (iI (v.2.1 : Int)), .int (iI (v.2.2 : Int))] (hp L σ I) Q = Q none (hp L σ (w4 I 108 (ch S n).1 v)) := by
  have e0 := fun Q => c117_0 (L := L) (σ := σ) (Q := Q) hr hl hn
  simp (disch := first | exact cat_i _ | exact cat_r _ | exact cat_n | omega) only [e131, u131_0, u131_1, u131_4, u131_5, u131_6, u131_7, u131_8, u131_11, u131_12, u131_13, u131_16, u131_17, u131_18, u131_19, u131_20, u131_23, u131_24, u131_25, u131_26, u131_27, u131_30, u131_31, u131_33, u131_34, hT_102, hT_108, hR_102_7, e0, if_pos, if_neg, ↓reduceIte, false_and, and_false, false_or, or_false, ite_not, decide_true, decide_false, Bool.true_eq_false, Bool.false_eq_true, decide_eq_true_eq, decide_eq_false_iff_not, hp_I, hp_sI, hp_N, ev_k_s, ev_k_n, true_and, and_true, true_or, or_true, not_true_eq_false, not_false_eq_true, if_true, if_false, ite_self, Option.some.injEq, exists_eq_left', nb_0, nb_1, nb_z, zI_t, zI_f, zI_e, cat_i, cat_r, cat_n, iI_add, iI_sub, iI_mul, iI_neg, iI_lt, iI_le, iI_eq, iI_idx, iI_inT, iI_ne0, ite_false, ite_true, iN_0, iN_1, Int.reduceAdd, Int.reduceSub, Int.reduceMul, Int.reduceNeg, Int.reduceDiv, Int.reduceMod, Int.reduceEq, Int.reduceLT, Int.reduceLE, Int.reduceToNat, Nat.reduceAdd, Nat.reduceSub, Nat.reduceMul, Nat.reduceLT, Nat.reduceLeDiff, Nat.reduceEqDiff, Int.cast_ofNat_Int, Std.le_refl, and_self, Int.toNat_natCast, Int.toNat_zero, Nat.le_refl]
  rfl
/-- hearsAhead -/
theorem c132 (hr : RepS I 103 0 S) (hl : S.2.length ≤ 10) (hn : n + 1 < S.2.length) (hw : (ch S n).2.2 = some v) : ev_c 132 [.ref 102, .int (iI ((n + 1 : Nat) : Int))] (hp L σ I) Q = Q none (hp L σ (w4 I 108 (ch S n).1 v)) := by
  have e1 : ((n + 1 : Nat) : Int) - 1 = (n : Int) := by omega
  have hn2 : n < S.2.length := by omega
  have e3 := fun Q => c117_3 (L := L) (σ := σ) (Q := Q) hr hl hn2 hw
  have e4 := fun Q => c117_4 (L := L) (σ := σ) (Q := Q) hr hl hn2 hw
  have e5 := fun Q => c117_5 (L := L) (σ := σ) (Q := Q) hr hl hn2 hw
  have e131 := fun Q => c131 (L := L) (σ := σ) (Q := Q) hr hl hn2 v
  simp (disch := first | exact cat_i _ | exact cat_r _ | exact cat_n | omega) only [e132, u132_0, u132_1, u132_2, u132_3, u132_4, u132_5, u132_6, u132_7, u132_8, u132_9, u132_12, u132_13, u132_14, u132_15, u132_16, u132_17, u132_20, u132_21, u132_22, u132_23, u132_24, u132_25, u132_28, u132_31, hT_102, e1, e3, e4, e5, e131, if_pos, if_neg, ↓reduceIte, false_and, and_false, false_or, or_false, ite_not, decide_true, decide_false, Bool.true_eq_false, Bool.false_eq_true, decide_eq_true_eq, decide_eq_false_iff_not, hp_I, hp_sI, hp_N, ev_k_s, ev_k_n, true_and, and_true, true_or, or_true, not_true_eq_false, not_false_eq_true, if_true, if_false, ite_self, Option.some.injEq, exists_eq_left', nb_0, nb_1, nb_z, zI_t, zI_f, zI_e, cat_i, cat_r, cat_n, iI_add, iI_sub, iI_mul, iI_neg, iI_lt, iI_le, iI_eq, iI_idx, iI_inT, iI_ne0, ite_false, ite_true, iN_0, iN_1, Int.reduceAdd, Int.reduceSub, Int.reduceMul, Int.reduceNeg, Int.reduceDiv, Int.reduceMod, Int.reduceEq, Int.reduceLT, Int.reduceLE, Int.reduceToNat, Nat.reduceAdd, Nat.reduceSub, Nat.reduceMul, Nat.reduceLT, Nat.reduceLeDiff, Nat.reduceEqDiff, Int.cast_ofNat_Int, Std.le_refl, and_self, Int.toNat_natCast, Int.toNat_zero, Nat.le_refl]
/-- steps -/
theorem c135 (h1 : R4 I 108 b v) (h2 : R4 I 109 b' w) (hv : VV v) (hw : VV w) : ev_c 135 [.ref 102] (hp L σ I) Q = Q (some (.int (iI ((dst v w : Nat) : Int)))) (hp L σ I) := by
  obtain ⟨a0, a1, a2, a3⟩ := h1
  obtain ⟨b0, b1, b2, b3⟩ := h2
  obtain ⟨v1, v2, v3⟩ := hv
  obtain ⟨w1, w2, w3⟩ := hw
  simp (disch := first | exact cat_i _ | exact cat_r _ | exact cat_n | omega) only [e135, u135_0, u135_1, u135_4, u135_5, u135_6, u135_7, u135_10, u135_11, u135_12, u135_13, u135_16, u135_17, u135_20, u135_21, u135_22, u135_23, u135_26, u135_27, u135_28, u135_29, u135_32, u135_33, u135_34, u135_37, u135_38, u135_39, u135_40, u135_43, u135_44, u135_45, u135_46, u135_49, u135_50, hT_102, hT_108, hT_109, hR_102_7, hR_102_8, a1, a2, a3, b1, b2, b3, c119, if_pos, if_neg, ↓reduceIte, false_and, and_false, false_or, or_false, ite_not, decide_true, decide_false, Bool.true_eq_false, Bool.false_eq_true, decide_eq_true_eq, decide_eq_false_iff_not, hp_I, hp_sI, hp_N, ev_k_s, ev_k_n, true_and, and_true, true_or, or_true, not_true_eq_false, not_false_eq_true, if_true, if_false, ite_self, Option.some.injEq, exists_eq_left', nb_0, nb_1, nb_z, zI_t, zI_f, zI_e, cat_i, cat_r, cat_n, iI_add, iI_sub, iI_mul, iI_neg, iI_lt, iI_le, iI_eq, iI_idx, iI_inT, iI_ne0, ite_false, ite_true, iN_0, iN_1, Int.reduceAdd, Int.reduceSub, Int.reduceMul, Int.reduceNeg, Int.reduceDiv, Int.reduceMod, Int.reduceEq, Int.reduceLT, Int.reduceLE, Int.reduceToNat, Nat.reduceAdd, Nat.reduceSub, Nat.reduceMul, Nat.reduceLT, Nat.reduceLeDiff, Nat.reduceEqDiff, Int.cast_ofNat_Int, Std.le_refl, and_self, Int.toNat_natCast, Int.toNat_zero, Nat.le_refl]
  unfold dst
  exact Qi (by omega)
/-- ownFaults -/
theorem shb {c : Int} (hm : m < 2147483648) (h1 : 0 ≤ c) (h2 : c < 31) : j_shr (iI (m : Int)) (iI c) &&& iI 1 = zI (m.testBit c.toNat) := by
  have hb : m.testBit c.toNat = decide (m >>> c.toNat &&& 1 ≠ 0) := by
    unfold Nat.testBit
    rw [Nat.and_comm]
    cases Nat.decEq (m >>> c.toNat &&& 1) 0 with
    | isTrue e => rw [e]; rfl
    | isFalse e => rw [decide_eq_true e]; exact bne_iff_ne.mpr e
  have hl : m >>> c.toNat &&& 1 ≤ 1 := Nat.and_le_right
  rw [iI_shrz h1 h2 hm, iI_and1, hb]
  by_cases q : m >>> c.toNat &&& 1 = 0
  · rw [q]; rfl
  · rw [show m >>> c.toNat &&& 1 = 1 by omega]; rfl
theorem c126a (h2 : R4 I 109 b v) (hb : b ≤ 99) (hv : VV v) : ev_w 126 0 [.ref 102, .int (iI (n : Int)), .null, .null, .null, .null, .null, .null, .null, .null, .null] [] (hp L σ I) Q = ev_w 126 54 [.ref 102, .int (iI (n : Int)), .int (zI (!decide ((48 ≤ (v.1 : Int) ∧ (v.1 : Int) ≤ 67) ∧ (53 ≤ (v.2.1 : Int) ∧ (v.2.1 : Int) ≤ 74) ∧ (58 ≤ (v.2.2 : Int) ∧ (v.2.2 : Int) ≤ 79)))), .null, .null, .null, .null, .null, .null, .null, .null] [] (hp L σ I) Q := by
  obtain ⟨b0, b1, b2, b3⟩ := h2
  obtain ⟨v1, v2, v3⟩ := hv
  by_cases q1 : 48 ≤ (v.1 : Int) ∧ (v.1 : Int) ≤ 67 <;> by_cases q2 : 53 ≤ (v.2.1 : Int) ∧ (v.2.1 : Int) ≤ 74 <;> by_cases q3 : 58 ≤ (v.2.2 : Int) ∧ (v.2.2 : Int) ≤ 79
  all_goals simp (disch := first | exact cat_i _ | exact cat_r _ | exact cat_n | omega) only [u126_0, u126_1, u126_4, u126_5, u126_6, u126_8, u126_10, u126_13, u126_16, u126_17, u126_20, u126_21, u126_22, u126_24, u126_26, u126_29, u126_32, u126_33, u126_36, u126_37, u126_38, u126_40, u126_42, u126_45, u126_48, u126_49, u126_52, u126_53, hT_102, hT_109, hR_102_8, b1, b2, b3, c113, q1, q2, q3, Bool.not_true, Bool.not_false, if_pos, if_neg, ↓reduceIte, false_and, and_false, false_or, or_false, ite_not, decide_true, decide_false, Bool.true_eq_false, Bool.false_eq_true, decide_eq_true_eq, decide_eq_false_iff_not, hp_I, hp_sI, hp_N, ev_k_s, ev_k_n, true_and, and_true, true_or, or_true, not_true_eq_false, not_false_eq_true, if_true, if_false, ite_self, Option.some.injEq, exists_eq_left', nb_0, nb_1, nb_z, zI_t, zI_f, zI_e, cat_i, cat_r, cat_n, iI_add, iI_sub, iI_mul, iI_neg, iI_lt, iI_le, iI_eq, iI_idx, iI_inT, iI_ne0, ite_false, ite_true, iN_0, iN_1, Int.reduceAdd, Int.reduceSub, Int.reduceMul, Int.reduceNeg, Int.reduceDiv, Int.reduceMod, Int.reduceEq, Int.reduceLT, Int.reduceLE, Int.reduceToNat, Nat.reduceAdd, Nat.reduceSub, Nat.reduceMul, Nat.reduceLT, Nat.reduceLeDiff, Nat.reduceEqDiff, Int.cast_ofNat_Int, Std.le_refl, and_self, Int.toNat_natCast, Int.toNat_zero, Nat.le_refl]
theorem c126b {a2 : Int32} (h2 : R4 I 109 b v) (hb : b ≤ 99) (hv : VV v) : ev_w 126 54 [.ref 102, .int (iI (n : Int)), .int a2, .null, .null, .null, .null, .null, .null, .null, .null] [] (hp L σ I) Q = ev_w 126 105 [.ref 102, .int (iI (n : Int)), .int a2, .int (zI (decide (v.1 ≤ b ∨ v.2.1 ≤ v.1 ∨ v.2.2 ≤ v.2.1))), .null, .null, .null, .null, .null, .null, .null] [] (hp L σ I) Q := by
  obtain ⟨b0, b1, b2, b3⟩ := h2
  obtain ⟨v1, v2, v3⟩ := hv
  simp (disch := first | exact cat_i _ | exact cat_r _ | exact cat_n | omega) only [u126_54, u126_55, u126_58, u126_59, u126_60, u126_61, u126_64, u126_65, u126_66, u126_69, u126_70, u126_73, u126_74, u126_75, u126_76, u126_79, u126_80, u126_81, u126_84, u126_85, u126_88, u126_89, u126_90, u126_91, u126_94, u126_95, u126_96, u126_99, u126_100, u126_103, u126_104, hT_102, hT_109, hR_102_8, b0, b1, b2, b3, ↓reduceIte, false_and, and_false, false_or, or_false, ite_not, decide_true, decide_false, Bool.true_eq_false, Bool.false_eq_true, decide_eq_true_eq, decide_eq_false_iff_not, hp_I, hp_sI, hp_N, ev_k_s, ev_k_n, true_and, and_true, true_or, or_true, not_true_eq_false, not_false_eq_true, if_true, if_false, ite_self, Option.some.injEq, exists_eq_left', nb_0, nb_1, nb_z, zI_t, zI_f, zI_e, cat_i, cat_r, cat_n, iI_add, iI_sub, iI_mul, iI_neg, iI_lt, iI_le, iI_eq, iI_idx, iI_inT, iI_ne0, ite_false, ite_true, iN_0, iN_1, Int.reduceAdd, Int.reduceSub, Int.reduceMul, Int.reduceNeg, Int.reduceDiv, Int.reduceMod, Int.reduceEq, Int.reduceLT, Int.reduceLE, Int.reduceToNat, Nat.reduceAdd, Nat.reduceSub, Nat.reduceMul, Nat.reduceLT, Nat.reduceLeDiff, Nat.reduceEqDiff, Int.cast_ofNat_Int, Std.le_refl, and_self, Int.toNat_natCast, Int.toNat_zero, Nat.le_refl]
  repeat' split
  all_goals first | rw [zI_dt (by omega)] | rw [zI_df (by omega)]
theorem c126c {a2 a3 : Int32} (hr : RepS I 103 0 S) (hVS : VS S) (h2 : R4 I 109 b v) (hb : b ≤ 99) (hv : VV v) : ev_w 126 105 [.ref 102, .int (iI (n : Int)), .int a2, .int a3, .null, .null, .null, .null, .null, .null, .null] [] (hp L σ I) Q = ev_w 126 171 [.ref 102, .int (iI (n : Int)), .int a2, .int a3, .int (zI (wid v S.1.2.1)), .null, .null, .null, .null, .null, .null] [] (hp L σ I) Q := by
  obtain ⟨b0, b1, b2, b3⟩ := h2
  obtain ⟨v1, v2, v3⟩ := hv
  have h62 := hr.2.2.1
  rw [Nat.zero_add] at h62
  have hs1 := hVS.2.1.1
  have hs2 := hVS.2.1.2
  simp (disch := first | exact cat_i _ | exact cat_r _ | exact cat_n | omega) only [u126_105, u126_106, u126_109, u126_110, u126_111, u126_112, u126_115, u126_116, u126_117, u126_119, u126_120, u126_123, u126_124, u126_127, u126_128, u126_129, u126_130, u126_133, u126_134, u126_135, u126_137, u126_138, u126_141, u126_142, u126_145, u126_146, u126_147, u126_148, u126_151, u126_152, u126_153, u126_154, u126_157, u126_159, u126_160, u126_161, u126_164, u126_165, u126_168, u126_169, hT_102, hT_103, hT_109, hR_102_0, hR_102_8, b0, b1, b2, b3, h62, ↓reduceIte, false_and, and_false, false_or, or_false, ite_not, decide_true, decide_false, Bool.true_eq_false, Bool.false_eq_true, decide_eq_true_eq, decide_eq_false_iff_not, hp_I, hp_sI, hp_N, ev_k_s, ev_k_n, true_and, and_true, true_or, or_true, not_true_eq_false, not_false_eq_true, if_true, if_false, ite_self, Option.some.injEq, exists_eq_left', nb_0, nb_1, nb_z, zI_t, zI_f, zI_e, cat_i, cat_r, cat_n, iI_add, iI_sub, iI_mul, iI_neg, iI_lt, iI_le, iI_eq, iI_idx, iI_inT, iI_ne0, ite_false, ite_true, iN_0, iN_1, Int.reduceAdd, Int.reduceSub, Int.reduceMul, Int.reduceNeg, Int.reduceDiv, Int.reduceMod, Int.reduceEq, Int.reduceLT, Int.reduceLE, Int.reduceToNat, Nat.reduceAdd, Nat.reduceSub, Nat.reduceMul, Nat.reduceLT, Nat.reduceLeDiff, Nat.reduceEqDiff, Int.cast_ofNat_Int, Std.le_refl, and_self, Int.toNat_natCast, Int.toNat_zero, Nat.le_refl]
  unfold wid
  repeat' split
  all_goals first | rw [zI_dt (by omega)] | rw [zI_df (by omega)]
def oth (m b : Nat) (v : Nat × Nat × Nat) (k : Nat) : Nat := if 0 < k ∧ m.testBit (nt b v k % 12) = false then 1 else 0
def lds (d : Int) (b : Nat) (v : Nat × Nat × Nat) (k : Nat) : Nat := if (nt b v k : Int) % 12 = d then 1 else 0
theorem c126i {a2 a3 a4 : Int32} {k u e f : Nat} {x : Value} (hx : x.category = 1) (hr : RepS I 103 0 S) (hVS : VS S) (h2 : R4 I 109 b v) (hb : b ≤ 99) (hv : VV v) (hm : m < 4096) (hk : k < 4) (hu : u < 4096) (he : e < 100) (hf : f < 100) : ev_w 126 190 [.ref 102, .int (iI (n : Int)), .int a2, .int a3, .int a4, .int (iI (m : Int)), .int (iI (u : Int)), .int (iI (e : Int)), .int (iI (f : Int)), .int (iI (k : Int)), x] [] (hp L σ I) Q = ev_w 126 190 [.ref 102, .int (iI (n : Int)), .int a2, .int a3, .int a4, .int (iI (m : Int)), .int (iI ((u ||| 2 ^ (nt b v k % 12) : Nat) : Int)), .int (iI ((e + oth m b v k : Nat) : Int)), .int (iI ((f + lds (((S.1.1 : Int) + 11) % 12) b v k : Nat) : Int)), .int (iI ((k : Int) + 1)), .int (iI ((nt b v k : Int) % 12))] [] (hp L σ I) Q := by
  have e124 := fun Q => c124 (L := L) (σ := σ) (Q := Q) hr hVS
  have hkey := hVS.1
  have hk2 := R4_k h2 hk
  have hle := nt_le hb hv k
  unfold oth lds
  rw [u126_190]
  generalize nt b v k = g at hk2 hle ⊢
  cases q1 : m.testBit (g % 12) <;> by_cases q2 : (g : Int) % 12 = ((S.1.1 : Int) + 11) % 12 <;> by_cases q3 : 0 < k
  all_goals
    simp (disch := first | exact hx | exact cat_i _ | omega) only [u126_192, u126_193, u126_196, u126_197, u126_200, u126_202, u126_203, u126_205, u126_206, u126_208, u126_210, u126_211, u126_213, u126_214, u126_215, u126_217, u126_219, u126_221, u126_224, u126_226, u126_228, u126_229, u126_230, u126_231, u126_234, u126_235, u126_238, u126_239, u126_240, u126_242, u126_244, u126_246, u126_247, u126_250, u126_253, u126_254, u126_257, u126_258, u126_259, u126_261, u126_264, hT_102, hT_109, hR_102_8, hk2, iI_rem, iI_shl1, iI_or, shb, tn12, e124, q1, q3, if_pos, if_neg, ↓reduceIte, false_and, and_false, false_or, or_false, ite_not, decide_true, decide_false, Bool.true_eq_false, Bool.false_eq_true, decide_eq_true_eq, decide_eq_false_iff_not, hp_I, hp_sI, hp_N, ev_k_s, ev_k_n, true_and, and_true, true_or, or_true, not_true_eq_false, not_false_eq_true, if_true, if_false, ite_self, Option.some.injEq, exists_eq_left', nb_0, nb_1, nb_z, zI_t, zI_f, zI_e, cat_i, cat_r, cat_n, iI_add, iI_sub, iI_mul, iI_neg, iI_lt, iI_le, iI_eq, iI_idx, iI_inT, iI_ne0, ite_false, ite_true, iN_0, iN_1, Int.reduceAdd, Int.reduceSub, Int.reduceMul, Int.reduceNeg, Int.reduceDiv, Int.reduceMod, Int.reduceEq, Int.reduceLT, Int.reduceLE, Int.reduceToNat, Nat.reduceAdd, Nat.reduceSub, Nat.reduceMul, Nat.reduceLT, Nat.reduceLeDiff, Nat.reduceEqDiff, Int.cast_ofNat_Int, Std.le_refl, and_self, Int.toNat_natCast, Int.toNat_zero, Nat.le_refl]
    rfl
theorem c126e {o c w : Bool} {m u e f : Nat} {x y : Value} (hx : x.category = 1) (hy : y.category = 1) (he : e < 100) (hf : f < 100) (hm : m < 4096) : ev_w 126 267 [.ref 102, .int (iI (n : Int)), .int (zI o), .int (zI c), .int (zI w), .int (iI (m : Int)), .int (iI (u : Int)), .int (iI (e : Int)), .int (iI (f : Int)), x, y] [] h Q = Q (some (.int (iI (((if (o || c) = true then 1 else 0) + (if w = true then 2 else 0) + (if 0 < e then 4 else 0) + (if dif m u ≠ 0 then 8 else 0) + (if 1 < f then 16 else 0) : Nat) : Int)))) h := by
  have hd := dif_lt (p := u) hm
  cases o <;> cases c <;> cases w <;> by_cases q1 : 0 < e <;> by_cases q2 : dif m u = 0 <;> by_cases q3 : 1 < f
  all_goals simp (disch := first | exact hx | exact hy | exact cat_i _ | omega) only [u126_267, u126_268, u126_271, u126_272, u126_275, u126_276, u126_279, u126_280, u126_282, u126_284, u126_286, u126_289, u126_290, u126_293, u126_294, u126_295, u126_297, u126_299, u126_301, u126_304, u126_305, u126_308, u126_309, u126_310, u126_312, u126_314, u126_316, u126_318, u126_319, u126_320, u126_321, u126_324, u126_326, u126_329, u126_330, u126_331, u126_333, u126_335, u126_337, u126_338, u126_341, u126_343, u126_346, u126_347, u126_348, iI_dif, iI_ol, Nat.reduceOr, q1, q2, q3, ne_eq, Bool.or_true, Bool.or_false, Bool.true_or, Bool.false_or, if_pos, if_neg, ↓reduceIte, false_and, and_false, false_or, or_false, ite_not, decide_true, decide_false, Bool.true_eq_false, Bool.false_eq_true, decide_eq_true_eq, decide_eq_false_iff_not, hp_I, hp_sI, hp_N, ev_k_s, ev_k_n, true_and, and_true, true_or, or_true, not_true_eq_false, not_false_eq_true, if_true, if_false, ite_self, Option.some.injEq, exists_eq_left', nb_0, nb_1, nb_z, zI_t, zI_f, zI_e, cat_i, cat_r, cat_n, iI_add, iI_sub, iI_mul, iI_neg, iI_lt, iI_le, iI_eq, iI_idx, iI_inT, iI_ne0, ite_false, ite_true, iN_0, iN_1, Int.reduceAdd, Int.reduceSub, Int.reduceMul, Int.reduceNeg, Int.reduceDiv, Int.reduceMod, Int.reduceEq, Int.reduceLT, Int.reduceLE, Int.reduceToNat, Nat.reduceAdd, Nat.reduceSub, Nat.reduceMul, Nat.reduceLT, Nat.reduceLeDiff, Nat.reduceEqDiff, Int.cast_ofNat_Int, Std.le_refl, and_self, Int.toNat_natCast, Int.toNat_zero, Nat.le_refl]
end MT
