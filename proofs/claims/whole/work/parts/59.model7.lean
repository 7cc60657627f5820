section MV
variable {L : Nat} {σ : Nat → Nat} {I J : Nat → Nat → Int32} {Q : Option Value → fb_H → Prop} {h : fb_H} {x y z iv : Int} {S : Co} {n m a o b b' : Nat} {v w : Nat × Nat × Nat}
theorem c128 (h1 : R4 I 108 b v) (h2 : R4 I 109 b' w) (hb : b ≤ 99) (hv : VV v) (hb' : b' ≤ 99) (hw : VV w) (hi1 : 0 ≤ iv) (hi2 : iv < 12) : ev_c 128 [.ref 102, .int (iI iv)] (hp L σ I) Q = Q (some (.int (iI (par b v b' w iv)))) (hp L σ I) := by
  have p16 : ∀ x3 x4 x5 : Value, x3.category = 1 → x4.category = 1 → x5.category = 1 → ev_w 128 2 [.ref 102, .int (iI iv), .int (iI ((4 * 3 + 3 + 1 : Nat) : Int)), x3, x4, x5] [] (hp L σ I) Q = Q (some (.int (iI (-6)))) (hp L σ I) := fun x3 x4 x5 _ _ _ => by
    simp (disch := first | exact cat_i _ | exact cat_r _ | exact cat_n | omega) only [u128_2, u128_3, u128_5, u128_115, u128_117, Int.cast_ofNat_Int, if_pos, if_neg, ↓reduceIte, false_and, and_false, false_or, or_false, ite_not, decide_true, decide_false, Bool.true_eq_false, Bool.false_eq_true, decide_eq_true_eq, decide_eq_false_iff_not, hp_I, hp_sI, hp_N, ev_k_s, ev_k_n, true_and, and_true, true_or, or_true, not_true_eq_false, not_false_eq_true, if_true, if_false, ite_self, Option.some.injEq, exists_eq_left', nb_0, nb_1, nb_z, zI_t, zI_f, zI_e, cat_i, cat_r, cat_n, iI_add, iI_sub, iI_mul, iI_neg, iI_lt, iI_le, iI_eq, iI_idx, iI_inT, iI_ne0, ite_false, ite_true, iN_0, iN_1, Int.reduceAdd, Int.reduceSub, Int.reduceMul, Int.reduceNeg, Int.reduceDiv, Int.reduceMod, Int.reduceEq, Int.reduceLT, Int.reduceLE, Int.reduceToNat, Nat.reduceAdd, Nat.reduceSub, Nat.reduceMul, Nat.reduceLT, Nat.reduceLeDiff, Nat.reduceEqDiff, Int.cast_ofNat_Int, Std.le_refl, and_self, Int.toNat_natCast, Int.toNat_zero, Nat.le_refl]
  have p15 := c128s (lo := 3) (hi := 3) h1 h2 hb hv hb' hw hi1 hi2 (by omega) (by omega) p16
  have p14 := c128s (lo := 3) (hi := 2) h1 h2 hb hv hb' hw hi1 hi2 (by omega) (by omega) p15
  have p13 := c128s (lo := 3) (hi := 1) h1 h2 hb hv hb' hw hi1 hi2 (by omega) (by omega) p14
  have p12 := c128s (lo := 3) (hi := 0) h1 h2 hb hv hb' hw hi1 hi2 (by omega) (by omega) p13
  have p11 := c128s (lo := 2) (hi := 3) h1 h2 hb hv hb' hw hi1 hi2 (by omega) (by omega) p12
  have p10 := c128s (lo := 2) (hi := 2) h1 h2 hb hv hb' hw hi1 hi2 (by omega) (by omega) p11
  have p9 := c128s (lo := 2) (hi := 1) h1 h2 hb hv hb' hw hi1 hi2 (by omega) (by omega) p10
  have p8 := c128s (lo := 2) (hi := 0) h1 h2 hb hv hb' hw hi1 hi2 (by omega) (by omega) p9
  have p7 := c128s (lo := 1) (hi := 3) h1 h2 hb hv hb' hw hi1 hi2 (by omega) (by omega) p8
  have p6 := c128s (lo := 1) (hi := 2) h1 h2 hb hv hb' hw hi1 hi2 (by omega) (by omega) p7
  have p5 := c128s (lo := 1) (hi := 1) h1 h2 hb hv hb' hw hi1 hi2 (by omega) (by omega) p6
  have p4 := c128s (lo := 1) (hi := 0) h1 h2 hb hv hb' hw hi1 hi2 (by omega) (by omega) p5
  have p3 := c128s (lo := 0) (hi := 3) h1 h2 hb hv hb' hw hi1 hi2 (by omega) (by omega) p4
  have p2 := c128s (lo := 0) (hi := 2) h1 h2 hb hv hb' hw hi1 hi2 (by omega) (by omega) p3
  have p1 := c128s (lo := 0) (hi := 1) h1 h2 hb hv hb' hw hi1 hi2 (by omega) (by omega) p2
  have p0 := c128s (lo := 0) (hi := 0) h1 h2 hb hv hb' hw hi1 hi2 (by omega) (by omega) p1 .null .null .null rfl rfl rfl
  clear p1 p2 p3 p4 p5 p6 p7 p8 p9 p10 p11 p12 p13 p14 p15 p16
  simp only [Nat.reduceMul, Nat.reduceAdd, Nat.reduceLT, false_and, true_and, if_false, Int.cast_ofNat_Int] at p0
  simp (disch := first | exact cat_i _ | exact cat_r _ | exact cat_n | omega) only [u128_0, u128_1, e128, ↓reduceIte, false_and, and_false, false_or, or_false, ite_not, decide_true, decide_false, Bool.true_eq_false, Bool.false_eq_true, decide_eq_true_eq, decide_eq_false_iff_not, hp_I, hp_sI, hp_N, ev_k_s, ev_k_n, true_and, and_true, true_or, or_true, not_true_eq_false, not_false_eq_true, if_true, if_false, ite_self, Option.some.injEq, exists_eq_left', nb_0, nb_1, nb_z, zI_t, zI_f, zI_e, cat_i, cat_r, cat_n, iI_add, iI_sub, iI_mul, iI_neg, iI_lt, iI_le, iI_eq, iI_idx, iI_inT, iI_ne0, ite_false, ite_true, iN_0, iN_1, Int.reduceAdd, Int.reduceSub, Int.reduceMul, Int.reduceNeg, Int.reduceDiv, Int.reduceMod, Int.reduceEq, Int.reduceLT, Int.reduceLE, Int.reduceToNat, Nat.reduceAdd, Nat.reduceSub, Nat.reduceMul, Nat.reduceLT, Nat.reduceLeDiff, Nat.reduceEqDiff, Int.cast_ofNat_Int, Std.le_refl, and_self, Int.toNat_natCast, Int.toNat_zero, Nat.le_refl]
  refine Eq.trans p0 ?_
  unfold par
  repeat' split
  all_goals rfl
/-- jointFaults -/
theorem c129a {lp : Bool} {a3 a4 : Int32} {k : Nat} (hr : RepS I 103 0 S) (hVS : VS S) (h1 : R4 I 108 b v) (h2 : R4 I 109 b' w) (hb : b ≤ 99) (hv : VV v) (hb' : b' ≤ 99) (hw : VV w) (hk : k < 4) : ev_w 129 30 [.ref 102, .int (iI (n : Int)), .int (zI lp), .int a3, .int a4, .int (iI (k : Int))] [] (hp L σ I) Q = ev_w 129 74 [.ref 102, .int (iI (n : Int)), .int (zI (lp || decide (S.1.2.2 < ((nt b' w k : Int) - nt b v k).natAbs))), .int a3, .int a4, .int (iI (k : Int))] [] (hp L σ I) Q := by
  have k1 := R4_k h1 hk
  have k2 := R4_k h2 hk
  have g1 := nt_le hb hv k
  have g2 := nt_le hb' hw k
  generalize nt b v k = p1 at k1 g1 ⊢
  generalize nt b' w k = p2 at k2 g2 ⊢
  have h63 := hr.2.2.2.1
  rw [Nat.zero_add] at h63
  have hs := hVS.2.2.1.2
  rw [u129_30]
  cases lp <;> by_cases q : S.1.2.2 < ((p2 : Int) - p1).natAbs
  all_goals simp (disch := first | exact cat_i _ | exact cat_r _ | exact cat_n | omega) only [u129_32, u129_33, u129_36, u129_37, u129_40, u129_41, u129_44, u129_46, u129_47, u129_48, u129_51, u129_53, u129_54, u129_55, u129_58, u129_59, u129_62, u129_64, u129_65, u129_68, u129_69, u129_72, u129_73, hT_102, hT_103, hT_108, hT_109, hR_102_0, hR_102_7, hR_102_8, k1, k2, h63, c119, q, Bool.or_true, Bool.or_false, Bool.true_or, Bool.false_or, if_pos, if_neg, ↓reduceIte, false_and, and_false, false_or, or_false, ite_not, decide_true, decide_false, Bool.true_eq_false, Bool.false_eq_true, decide_eq_true_eq, decide_eq_false_iff_not, hp_I, hp_sI, hp_N, ev_k_s, ev_k_n, true_and, and_true, true_or, or_true, not_true_eq_false, not_false_eq_true, if_true, if_false, ite_self, Option.some.injEq, exists_eq_left', nb_0, nb_1, nb_z, zI_t, zI_f, zI_e, cat_i, cat_r, cat_n, iI_add, iI_sub, iI_mul, iI_neg, iI_lt, iI_le, iI_eq, iI_idx, iI_inT, iI_ne0, ite_false, ite_true, iN_0, iN_1, Int.reduceAdd, Int.reduceSub, Int.reduceMul, Int.reduceNeg, Int.reduceDiv, Int.reduceMod, Int.reduceEq, Int.reduceLT, Int.reduceLE, Int.reduceToNat, Nat.reduceAdd, Nat.reduceSub, Nat.reduceMul, Nat.reduceLT, Nat.reduceLeDiff, Nat.reduceEqDiff, Int.cast_ofNat_Int, Std.le_refl, and_self, Int.toNat_natCast, Int.toNat_zero, Nat.le_refl]
theorem c129b {fl ht : Bool} {a2 : Int32} {k : Nat} (hr : RepS I 103 0 S) (hVS : VS S) (h1 : R4 I 108 b v) (h2 : R4 I 109 b' w) (hb : b ≤ 99) (hv : VV v) (hb' : b' ≤ 99) (hw : VV w) (hk : k < 4) : ev_w 129 74 [.ref 102, .int (iI (n : Int)), .int a2, .int (zI fl), .int (zI ht), .int (iI (k : Int))] [] (hp L σ I) Q = ev_w 129 30 [.ref 102, .int (iI (n : Int)), .int a2, .int (zI (fl || decide (((nt b v k : Int) % 12 = ((S.1.1 : Int) + 11) % 12 ∧ nt b' w k ≠ nt b v k + 1) ∧ ht = true))), .int (zI ht), .int (iI ((k : Int) + 1))] [] (hp L σ I) Q := by
  have k1 := R4_k h1 hk
  have k2 := R4_k h2 hk
  have g1 := nt_le hb hv k
  have g2 := nt_le hb' hw k
  generalize nt b v k = p1 at k1 g1 ⊢
  generalize nt b' w k = p2 at k2 g2 ⊢
  have hkey := hVS.1
  have e124 := fun Q => c124 (L := L) (σ := σ) (Q := Q) hr hVS
  rw [u129_74]
  cases fl
  · by_cases q1 : (p1 : Int) % 12 = ((S.1.1 : Int) + 11) % 12
    · by_cases q2 : p2 = p1 + 1
      · have q3 : (p2 : Int) = (p1 : Int) + 1 := by omega
        cases ht
        all_goals simp (disch := first | exact cat_i _ | exact cat_r _ | exact cat_n | omega) only [u129_75, u129_78, u129_79, u129_82, u129_84, u129_85, u129_87, u129_88, u129_89, u129_92, u129_95, u129_97, u129_100, u129_101, u129_104, u129_106, u129_107, u129_108, u129_111, u129_113, u129_114, u129_115, u129_116, u129_119, u129_120, u129_123, u129_124, u129_125, u129_128, hT_102, hT_108, hT_109, hR_102_7, hR_102_8, k1, k2, e124, iI_rem, q1, q2, q3, ne_eq, Bool.or_true, Bool.or_false, Bool.true_or, Bool.false_or, if_pos, if_neg, ↓reduceIte, false_and, and_false, false_or, or_false, ite_not, decide_true, decide_false, Bool.true_eq_false, Bool.false_eq_true, decide_eq_true_eq, decide_eq_false_iff_not, hp_I, hp_sI, hp_N, ev_k_s, ev_k_n, true_and, and_true, true_or, or_true, not_true_eq_false, not_false_eq_true, if_true, if_false, ite_self, Option.some.injEq, exists_eq_left', nb_0, nb_1, nb_z, zI_t, zI_f, zI_e, cat_i, cat_r, cat_n, iI_add, iI_sub, iI_mul, iI_neg, iI_lt, iI_le, iI_eq, iI_idx, iI_inT, iI_ne0, ite_false, ite_true, iN_0, iN_1, Int.reduceAdd, Int.reduceSub, Int.reduceMul, Int.reduceNeg, Int.reduceDiv, Int.reduceMod, Int.reduceEq, Int.reduceLT, Int.reduceLE, Int.reduceToNat, Nat.reduceAdd, Nat.reduceSub, Nat.reduceMul, Nat.reduceLT, Nat.reduceLeDiff, Nat.reduceEqDiff, Int.cast_ofNat_Int, Std.le_refl, and_self, Int.toNat_natCast, Int.toNat_zero, Nat.le_refl]
      · have q3 : ¬ (p2 : Int) = (p1 : Int) + 1 := by omega
        cases ht
        all_goals simp (disch := first | exact cat_i _ | exact cat_r _ | exact cat_n | omega) only [u129_75, u129_78, u129_79, u129_82, u129_84, u129_85, u129_87, u129_88, u129_89, u129_92, u129_95, u129_97, u129_100, u129_101, u129_104, u129_106, u129_107, u129_108, u129_111, u129_113, u129_114, u129_115, u129_116, u129_119, u129_120, u129_123, u129_124, u129_125, u129_128, hT_102, hT_108, hT_109, hR_102_7, hR_102_8, k1, k2, e124, iI_rem, q1, q2, q3, ne_eq, Bool.or_true, Bool.or_false, Bool.true_or, Bool.false_or, if_pos, if_neg, ↓reduceIte, false_and, and_false, false_or, or_false, ite_not, decide_true, decide_false, Bool.true_eq_false, Bool.false_eq_true, decide_eq_true_eq, decide_eq_false_iff_not, hp_I, hp_sI, hp_N, ev_k_s, ev_k_n, true_and, and_true, true_or, or_true, not_true_eq_false, not_false_eq_true, if_true, if_false, ite_self, Option.some.injEq, exists_eq_left', nb_0, nb_1, nb_z, zI_t, zI_f, zI_e, cat_i, cat_r, cat_n, iI_add, iI_sub, iI_mul, iI_neg, iI_lt, iI_le, iI_eq, iI_idx, iI_inT, iI_ne0, ite_false, ite_true, iN_0, iN_1, Int.reduceAdd, Int.reduceSub, Int.reduceMul, Int.reduceNeg, Int.reduceDiv, Int.reduceMod, Int.reduceEq, Int.reduceLT, Int.reduceLE, Int.reduceToNat, Nat.reduceAdd, Nat.reduceSub, Nat.reduceMul, Nat.reduceLT, Nat.reduceLeDiff, Nat.reduceEqDiff, Int.cast_ofNat_Int, Std.le_refl, and_self, Int.toNat_natCast, Int.toNat_zero, Nat.le_refl]
    · cases ht
      all_goals simp (disch := first | exact cat_i _ | exact cat_r _ | exact cat_n | omega) only [u129_75, u129_78, u129_79, u129_82, u129_84, u129_85, u129_87, u129_88, u129_89, u129_92, u129_95, u129_97, u129_100, u129_101, u129_104, u129_106, u129_107, u129_108, u129_111, u129_113, u129_114, u129_115, u129_116, u129_119, u129_120, u129_123, u129_124, u129_125, u129_128, hT_102, hT_108, hT_109, hR_102_7, hR_102_8, k1, k2, e124, iI_rem, q1, ne_eq, Bool.or_true, Bool.or_false, Bool.true_or, Bool.false_or, if_pos, if_neg, ↓reduceIte, false_and, and_false, false_or, or_false, ite_not, decide_true, decide_false, Bool.true_eq_false, Bool.false_eq_true, decide_eq_true_eq, decide_eq_false_iff_not, hp_I, hp_sI, hp_N, ev_k_s, ev_k_n, true_and, and_true, true_or, or_true, not_true_eq_false, not_false_eq_true, if_true, if_false, ite_self, Option.some.injEq, exists_eq_left', nb_0, nb_1, nb_z, zI_t, zI_f, zI_e, cat_i, cat_r, cat_n, iI_add, iI_sub, iI_mul, iI_neg, iI_lt, iI_le, iI_eq, iI_idx, iI_inT, iI_ne0, ite_false, ite_true, iN_0, iN_1, Int.reduceAdd, Int.reduceSub, Int.reduceMul, Int.reduceNeg, Int.reduceDiv, Int.reduceMod, Int.reduceEq, Int.reduceLT, Int.reduceLE, Int.reduceToNat, Nat.reduceAdd, Nat.reduceSub, Nat.reduceMul, Nat.reduceLT, Nat.reduceLeDiff, Nat.reduceEqDiff, Int.cast_ofNat_Int, Std.le_refl, and_self, Int.toNat_natCast, Int.toNat_zero, Nat.le_refl]
  · simp (disch := first | exact cat_i _ | exact cat_r _ | exact cat_n | omega) only [u129_75, u129_78, u129_79, u129_82, u129_84, u129_85, u129_87, u129_88, u129_89, u129_92, u129_95, u129_97, u129_100, u129_101, u129_104, u129_106, u129_107, u129_108, u129_111, u129_113, u129_114, u129_115, u129_116, u129_119, u129_120, u129_123, u129_124, u129_125, u129_128, hT_102, Bool.true_or, if_pos, if_neg, ↓reduceIte, false_and, and_false, false_or, or_false, ite_not, decide_true, decide_false, Bool.true_eq_false, Bool.false_eq_true, decide_eq_true_eq, decide_eq_false_iff_not, hp_I, hp_sI, hp_N, ev_k_s, ev_k_n, true_and, and_true, true_or, or_true, not_true_eq_false, not_false_eq_true, if_true, if_false, ite_self, Option.some.injEq, exists_eq_left', nb_0, nb_1, nb_z, zI_t, zI_f, zI_e, cat_i, cat_r, cat_n, iI_add, iI_sub, iI_mul, iI_neg, iI_lt, iI_le, iI_eq, iI_idx, iI_inT, iI_ne0, ite_false, ite_true, iN_0, iN_1, Int.reduceAdd, Int.reduceSub, Int.reduceMul, Int.reduceNeg, Int.reduceDiv, Int.reduceMod, Int.reduceEq, Int.reduceLT, Int.reduceLE, Int.reduceToNat, Nat.reduceAdd, Nat.reduceSub, Nat.reduceMul, Nat.reduceLT, Nat.reduceLeDiff, Nat.reduceEqDiff, Int.cast_ofNat_Int, Std.le_refl, and_self, Int.toNat_natCast, Int.toNat_zero, Nat.le_refl]
theorem c129 (hr : RepS I 103 0 S) (hVS : VS S) (hn : n < S.2.length) (h1 : R4 I 108 b v) (h2 : R4 I 109 b' w) (hb : b ≤ 99) (hv : VV v) (hb' : b' ≤ 99) (hw : VV w) : ev_c 129 [.ref 102, .int (iI (n : Int))] (hp L σ I) Q = Q (some (.int (iI ((bhd S.1.1 S.1.2.2 b v b' w (tn S n) : Nat) : Int)))) (hp L σ I) := by
  have hm : tn S n < 4096 := tns_lt _ _ _
  have hkey := hVS.1
  have e125 := fun Q => c125 (L := L) (σ := σ) (Q := Q) hr hVS hn
  have e123 := fun Q => c123 (L := L) (σ := σ) (Q := Q) hr
  have e7 := fun Q => c128 (L := L) (σ := σ) (Q := Q) (iv := 7) h1 h2 hb hv hb' hw (by omega) (by omega)
  have e0 := fun Q => c128 (L := L) (σ := σ) (Q := Q) (iv := 0) h1 h2 hb hv hb' hw (by omega) (by omega)
  have p7 := par_in b v b' w 7
  have p0 := par_in b v b' w 0
  obtain ⟨p71, p72⟩ := p7
  obtain ⟨p01, p02⟩ := p0
  have e130 : j_shr (iI ((tn S n : Nat) : Int)) (iI (S.1.1 : Int)) &&& iI 1 = zI ((tn S n).testBit S.1.1) := by
    have := shb (c := (S.1.1 : Int)) (show tn S n < 2147483648 by omega) (by omega) (by omega)
    rw [Int.toNat_natCast] at this
    exact this
  have ini : ev_c 129 [.ref 102, .int (iI (n : Int))] (hp L σ I) Q = ev_w 129 30 [.ref 102, .int (iI (n : Int)), .int (zI false), .int (zI false), .int (zI ((tn S n).testBit S.1.1)), .int (iI 1)] [] (hp L σ I) Q := by
    cases q : (tn S n).testBit S.1.1 <;> rw [q] at e130
    all_goals simp (disch := first | exact cat_i _ | exact cat_r _ | exact cat_n | omega) only [u129_0, u129_1, u129_2, u129_3, u129_4, u129_5, u129_6, u129_9, u129_10, u129_13, u129_14, u129_15, u129_16, u129_17, u129_20, u129_21, u129_24, u129_25, u129_27, u129_28, e129, hT_102, e125, e123, e130, if_pos, if_neg, ↓reduceIte, false_and, and_false, false_or, or_false, ite_not, decide_true, decide_false, Bool.true_eq_false, Bool.false_eq_true, decide_eq_true_eq, decide_eq_false_iff_not, hp_I, hp_sI, hp_N, ev_k_s, ev_k_n, true_and, and_true, true_or, or_true, not_true_eq_false, not_false_eq_true, if_true, if_false, ite_self, Option.some.injEq, exists_eq_left', nb_0, nb_1, nb_z, zI_t, zI_f, zI_e, cat_i, cat_r, cat_n, iI_add, iI_sub, iI_mul, iI_neg, iI_lt, iI_le, iI_eq, iI_idx, iI_inT, iI_ne0, ite_false, ite_true, iN_0, iN_1, Int.reduceAdd, Int.reduceSub, Int.reduceMul, Int.reduceNeg, Int.reduceDiv, Int.reduceMod, Int.reduceEq, Int.reduceLT, Int.reduceLE, Int.reduceToNat, Nat.reduceAdd, Nat.reduceSub, Nat.reduceMul, Nat.reduceLT, Nat.reduceLeDiff, Nat.reduceEqDiff, Int.cast_ofNat_Int, Std.le_refl, and_self, Int.toNat_natCast, Int.toNat_zero, Nat.le_refl]
  rw [ini]
  clear ini
  generalize hht : (tn S n).testBit S.1.1 = ht
  have t1 := fun lp fl => (c129a (L := L) (σ := σ) (Q := Q) (n := n) (lp := lp) (a3 := zI fl) (a4 := zI ht) (k := 1) hr hVS h1 h2 hb hv hb' hw (by omega)).trans (c129b (L := L) (σ := σ) (Q := Q) (n := n) (fl := fl) (ht := ht) (k := 1) hr hVS h1 h2 hb hv hb' hw (by omega))
  have t2 := fun lp fl => (c129a (L := L) (σ := σ) (Q := Q) (n := n) (lp := lp) (a3 := zI fl) (a4 := zI ht) (k := 2) hr hVS h1 h2 hb hv hb' hw (by omega)).trans (c129b (L := L) (σ := σ) (Q := Q) (n := n) (fl := fl) (ht := ht) (k := 2) hr hVS h1 h2 hb hv hb' hw (by omega))
  have t3 := fun lp fl => (c129a (L := L) (σ := σ) (Q := Q) (n := n) (lp := lp) (a3 := zI fl) (a4 := zI ht) (k := 3) hr hVS h1 h2 hb hv hb' hw (by omega)).trans (c129b (L := L) (σ := σ) (Q := Q) (n := n) (fl := fl) (ht := ht) (k := 3) hr hVS h1 h2 hb hv hb' hw (by omega))
  refine Eq.trans (t1 _ _) (Eq.trans (t2 _ _) (Eq.trans (t3 _ _) ?_))
  clear t1 t2 t3
  have hL : (false || decide (S.1.2.2 < ((nt b' w 1 : Int) - nt b v 1).natAbs) || decide (S.1.2.2 < ((nt b' w 2 : Int) - nt b v 2).natAbs) || decide (S.1.2.2 < ((nt b' w 3 : Int) - nt b v 3).natAbs)) = lps v w S.1.2.2 := by
    unfold lps
    rw [Bool.false_or, ← Bool.decide_or, ← Bool.decide_or]
    exact decide_eq_decide.mpr or_assoc
  have hF : (false || decide (((nt b v 1 : Int) % 12 = ((S.1.1 : Int) + 11) % 12 ∧ nt b' w 1 ≠ nt b v 1 + 1) ∧ ht = true) || decide (((nt b v 2 : Int) % 12 = ((S.1.1 : Int) + 11) % 12 ∧ nt b' w 2 ≠ nt b v 2 + 1) ∧ ht = true) || decide (((nt b v 3 : Int) % 12 = ((S.1.1 : Int) + 11) % 12 ∧ nt b' w 3 ≠ nt b v 3 + 1) ∧ ht = true)) = (hbk v w (((S.1.1 : Int) + 11) % 12) && ht) := by
    unfold hbk
    have n1 : nt b v 1 = v.1 := rfl
    have n2 : nt b v 2 = v.2.1 := rfl
    have n3 : nt b v 3 = v.2.2 := rfl
    have m1 : nt b' w 1 = w.1 := rfl
    have m2 : nt b' w 2 = w.2.1 := rfl
    have m3 : nt b' w 3 = w.2.2 := rfl
    rw [n1, n2, n3, m1, m2, m3]
    cases ht
    · simp
    · simp only [and_true, Bool.false_or, Bool.and_true, Bool.decide_or, Bool.or_assoc]
  rw [hL, hF]
  unfold bhd
  rw [hht]
  by_cases q1 : par b v b' w 7 = -6 <;> by_cases q2 : par b v b' w 0 = -6 <;> cases q3 : lps v w S.1.2.2 <;> cases q5 : hbk v w (((S.1.1 : Int) + 11) % 12) <;> cases ht
  all_goals simp (disch := first | exact cat_i _ | exact cat_r _ | exact cat_n | omega) only [u129_30, u129_32, u129_33, u129_131, u129_132, u129_134, u129_137, u129_139, u129_142, u129_143, u129_146, u129_148, u129_150, u129_152, u129_153, u129_154, u129_157, u129_159, u129_162, u129_163, u129_166, u129_168, u129_169, u129_171, u129_173, u129_174, u129_177, u129_180, u129_183, u129_184, u129_185, u129_187, u129_189, u129_190, u129_193, u129_196, u129_199, u129_200, u129_201, hT_102, e7, e0, q1, q2, q3, q5, iI_ol, Nat.reduceOr, Int.cast_ofNat_Int, Bool.and_true, Bool.and_false, Bool.false_and, Bool.true_and, if_pos, if_neg, ↓reduceIte, false_and, and_false, false_or, or_false, ite_not, decide_true, decide_false, Bool.true_eq_false, Bool.false_eq_true, decide_eq_true_eq, decide_eq_false_iff_not, hp_I, hp_sI, hp_N, ev_k_s, ev_k_n, true_and, and_true, true_or, or_true, not_true_eq_false, not_false_eq_true, if_true, if_false, ite_self, Option.some.injEq, exists_eq_left', nb_0, nb_1, nb_z, zI_t, zI_f, zI_e, cat_i, cat_r, cat_n, iI_add, iI_sub, iI_mul, iI_neg, iI_lt, iI_le, iI_eq, iI_idx, iI_inT, iI_ne0, ite_false, ite_true, iN_0, iN_1, Int.reduceAdd, Int.reduceSub, Int.reduceMul, Int.reduceNeg, Int.reduceDiv, Int.reduceMod, Int.reduceEq, Int.reduceLT, Int.reduceLE, Int.reduceToNat, Nat.reduceAdd, Nat.reduceSub, Nat.reduceMul, Nat.reduceLT, Nat.reduceLeDiff, Nat.reduceEqDiff, Int.cast_ofNat_Int, Std.le_refl, and_self, Int.toNat_natCast, Int.toNat_zero, Nat.le_refl]
end MV
