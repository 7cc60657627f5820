section MR
variable {L : Nat} {σ : Nat → Nat} {I J : Nat → Nat → Int32} {Q : Option Value → fb_H → Prop} {h : fb_H} {x y z : Int} {S : Co} {n a o : Nat}
theorem RepS_o (hr : RepS I a o S) (h : ∀ q, J a q = I a q) : RepS J a o S := by
  obtain ⟨r0, r1, r2, r3, r4⟩ := hr
  refine ⟨by rw [h]; exact r0, by rw [h]; exact r1, by rw [h]; exact r2, by rw [h]; exact r3, fun c hc => ?_⟩
  rw [h, h, h]
  refine ⟨(r4 c hc).1, (r4 c hc).2.1, (r4 c hc).2.2.1, fun v hv => ?_⟩
  rw [h, h, h]
  exact (r4 c hc).2.2.2 v hv
/-- what a chord tells -/
theorem c117_0 (hr : RepS I 103 0 S) (hl : S.2.length ≤ 10) (hn : n < S.2.length) : ev_c 117 [.ref 102, .int (iI (n : Int)), .int (iI 0)] (hp L σ I) Q = Q (some (.int (iI ((ch S n).1 : Int)))) (hp L σ I) := by
  have e := c117 (L := L) (σ := σ) (Q := Q) (I := I) (n := n) (k := 0) (by omega) (by omega)
  have hh := (hr.2.2.2.2 n hn).1
  rw [Nat.zero_add] at hh
  rw [Nat.add_zero, hh] at e
  exact e
theorem c117_1 (hr : RepS I 103 0 S) (hl : S.2.length ≤ 10) (hn : n < S.2.length) : ev_c 117 [.ref 102, .int (iI (n : Int)), .int (iI 1)] (hp L σ I) Q = Q (some (.int (iI ((ch S n).2.1 : Int)))) (hp L σ I) := by
  have e := c117 (L := L) (σ := σ) (Q := Q) (I := I) (n := n) (k := 1) (by omega) (by omega)
  have hh := (hr.2.2.2.2 n hn).2.1
  rw [Nat.zero_add] at hh
  rw [hh] at e
  exact e
theorem c117_2 (hr : RepS I 103 0 S) (hl : S.2.length ≤ 10) (hn : n < S.2.length) : ev_c 117 [.ref 102, .int (iI (n : Int)), .int (iI 2)] (hp L σ I) Q = Q (some (.int (zI (ch S n).2.2.isSome))) (hp L σ I) := by
  have e := c117 (L := L) (σ := σ) (Q := Q) (I := I) (n := n) (k := 2) (by omega) (by omega)
  have hh := (hr.2.2.2.2 n hn).2.2.1
  rw [Nat.zero_add] at hh
  rw [hh] at e
  exact e
theorem c117_3 {v : Nat × Nat × Nat} (hr : RepS I 103 0 S) (hl : S.2.length ≤ 10) (hn : n < S.2.length) (hw : (ch S n).2.2 = some v) : ev_c 117 [.ref 102, .int (iI (n : Int)), .int (iI 3)] (hp L σ I) Q = Q (some (.int (iI (v.1 : Int)))) (hp L σ I) := by
  have e := c117 (L := L) (σ := σ) (Q := Q) (I := I) (n := n) (k := 3) (by omega) (by omega)
  have hh := ((hr.2.2.2.2 n hn).2.2.2 v hw).1
  rw [Nat.zero_add] at hh
  rw [hh] at e
  exact e
theorem c117_4 {v : Nat × Nat × Nat} (hr : RepS I 103 0 S) (hl : S.2.length ≤ 10) (hn : n < S.2.length) (hw : (ch S n).2.2 = some v) : ev_c 117 [.ref 102, .int (iI (n : Int)), .int (iI 4)] (hp L σ I) Q = Q (some (.int (iI (v.2.1 : Int)))) (hp L σ I) := by
  have e := c117 (L := L) (σ := σ) (Q := Q) (I := I) (n := n) (k := 4) (by omega) (by omega)
  have hh := ((hr.2.2.2.2 n hn).2.2.2 v hw).2.1
  rw [Nat.zero_add] at hh
  rw [hh] at e
  exact e
theorem c117_5 {v : Nat × Nat × Nat} (hr : RepS I 103 0 S) (hl : S.2.length ≤ 10) (hn : n < S.2.length) (hw : (ch S n).2.2 = some v) : ev_c 117 [.ref 102, .int (iI (n : Int)), .int (iI 5)] (hp L σ I) Q = Q (some (.int (iI (v.2.2 : Int)))) (hp L σ I) := by
  have e := c117 (L := L) (σ := σ) (Q := Q) (I := I) (n := n) (k := 5) (by omega) (by omega)
  have hh := ((hr.2.2.2.2 n hn).2.2.2 v hw).2.2
  rw [Nat.zero_add] at hh
  rw [hh] at e
  exact e
end MR
/-- a tone of the scale -/
def tT (key s : Nat) : Nat := 2 ^ (((key : Int) + sc (s % 7)) % 12).toNat
theorem tns_5 (key b : Nat) : tnsS key b 5 = tT key b ||| tT key (b + 2) ||| tT key (b + 4) := by
  have e : tnsS key b 5 = 0 ||| tT key b ||| tT key (b + 2) ||| tT key (b + 4) := by
    unfold tnsS
    rw [if_neg (by omega)]
    rfl
  rw [e, Nat.zero_or]
theorem tns_6 (key b : Nat) : tnsS key b 6 = tT key b ||| tT key (b + 2) ||| tT key (b + 5) := by
  have e : tnsS key b 6 = 0 ||| tT key b ||| tT key (b + 2) ||| tT key (b + 5) := by
    unfold tnsS
    rw [if_neg (by omega)]
    rfl
  rw [e, Nat.zero_or]
theorem tns_64 (key b : Nat) : tnsS key b 64 = tT key b ||| tT key (b + 3) ||| tT key (b + 5) := by
  have e : tnsS key b 64 = 0 ||| tT key b ||| tT key (b + 3) ||| tT key (b + 5) := by
    unfold tnsS
    rw [if_neg (by omega)]
    rfl
  rw [e, Nat.zero_or]
theorem tns_7 (key b : Nat) : tnsS key b 7 = tT key b ||| tT key (b + 2) ||| tT key (b + 4) ||| tT key (b + 6) := by
  have e : tnsS key b 7 = 0 ||| tT key b ||| tT key (b + 2) ||| tT key (b + 4) ||| tT key (b + 6) := by
    unfold tnsS
    rw [if_neg (by omega)]
    rfl
  rw [e, Nat.zero_or]
section MS
variable {L : Nat} {σ : Nat → Nat} {I J : Nat → Nat → Int32} {Q : Option Value → fb_H → Prop} {h : fb_H} {x y z : Int} {S : Co} {n a o : Nat}
/-- tones -/
theorem c125 (hr : RepS I 103 0 S) (hv : VS S) (hn : n < S.2.length) : ev_c 125 [.ref 102, .int (iI (n : Int))] (hp L σ I) Q = Q (some (.int (iI ((tn S n : Nat) : Int)))) (hp L σ I) := by
  have hl := hv.2.2.2.1
  have hk := hv.1
  have hb := hv.2.2.2.2 n hn
  have hb2 := hb.2.1
  have e123 := fun Q => c123 (L := L) (σ := σ) (Q := Q) hr
  have e0 := fun Q => c117_0 (L := L) (σ := σ) (Q := Q) hr hl hn
  have e1 := fun Q => c117_1 (L := L) (σ := σ) (Q := Q) hr hl hn
  have e122 := fun Q h => c122 (Q := Q) (h := h) (k := S.1.1) (m := (ch S n).1) hk (by omega)
  have hq := stepD_in ((((ch S n).1 : Int) - S.1.1) % 12)
  unfold tn tns
  generalize hg : stepD ((((ch S n).1 : Int) - S.1.1) % 12) = s at hq e122 ⊢
  by_cases hz : s = -6
  · subst hz
    unfold tnsS
    rw [if_pos rfl]
    simp (disch := first | exact cat_i _ | exact cat_r _ | exact cat_n | omega) only [u125_0, u125_1, u125_4, u125_5, u125_6, u125_7, u125_10, u125_13, u125_14, u125_15, u125_16, u125_17, u125_20, u125_21, u125_22, u125_24, u125_27, u125_28, e125, hT_102, e123, e0, e1, e122, ↓reduceIte, false_and, and_false, false_or, or_false, ite_not, decide_true, decide_false, Bool.true_eq_false, Bool.false_eq_true, decide_eq_true_eq, decide_eq_false_iff_not, hp_I, hp_sI, hp_N, ev_k_s, ev_k_n, true_and, and_true, true_or, or_true, not_true_eq_false, not_false_eq_true, if_true, if_false, ite_self, Option.some.injEq, exists_eq_left', nb_0, nb_1, nb_z, zI_t, zI_f, zI_e, cat_i, cat_r, cat_n, iI_add, iI_sub, iI_mul, iI_neg, iI_lt, iI_le, iI_eq, iI_idx, iI_inT, iI_ne0, ite_false, ite_true, iN_0, iN_1, Int.reduceAdd, Int.reduceSub, Int.reduceMul, Int.reduceNeg, Int.reduceDiv, Int.reduceMod, Int.reduceEq, Int.reduceLT, Int.reduceLE, Int.reduceToNat, Nat.reduceAdd, Nat.reduceSub, Nat.reduceMul, Nat.reduceLT, Nat.reduceLeDiff, Nat.reduceEqDiff, Int.cast_ofNat_Int, Std.le_refl, and_self, Int.toNat_natCast, Int.toNat_zero, Nat.le_refl]
  · obtain ⟨b, rfl⟩ := Int.eq_ofNat_of_zero_le (show 0 ≤ s by omega)
    have hb7 : b < 7 := by omega
    have e121 := fun (j : Nat) (hj : j < 30) Q h => c121 (Q := Q) (h := h) (k := S.1.1) (s := j) hk hj
    have t0 := fun Q h => e121 b (by omega) Q h
    have t2 := fun Q h => e121 (b + 2) (by omega) Q h
    have t3 := fun Q h => e121 (b + 3) (by omega) Q h
    have t4 := fun Q h => e121 (b + 4) (by omega) Q h
    have t5 := fun Q h => e121 (b + 5) (by omega) Q h
    have t6 := fun Q h => e121 (b + 6) (by omega) Q h
    have p : ∀ j : Nat, ((b + j : Nat) : Int) = (b : Int) + ((j : Nat) : Int) := fun j => by omega
    rw [p 2] at t2
    rw [p 3] at t3
    rw [p 4] at t4
    rw [p 5] at t5
    rw [p 6] at t6
    simp only [Int.cast_ofNat_Int] at t2 t3 t4 t5 t6
    rcases hb.2.2.1 with e | e | e | e <;> rw [e] at e1 ⊢
    · rw [tns_5]
      simp only [Int.cast_ofNat_Int] at e1
      simp (disch := first | exact cat_i _ | exact cat_r _ | exact cat_n | omega) only [e125, u125_0, u125_1, u125_4, u125_5, u125_6, u125_7, u125_10, u125_13, u125_14, u125_15, u125_16, u125_17, u125_20, u125_21, u125_22, u125_24, u125_27, u125_28, u125_29, u125_30, u125_32, u125_35, u125_36, u125_37, u125_38, u125_41, u125_42, u125_43, u125_44, u125_46, u125_47, u125_48, u125_51, u125_52, u125_54, u125_57, u125_58, u125_59, u125_60, u125_63, u125_64, u125_65, u125_66, u125_68, u125_69, u125_70, u125_73, u125_74, u125_77, u125_78, u125_79, u125_80, u125_83, u125_85, u125_88, u125_89, u125_90, u125_91, u125_92, u125_95, u125_97, u125_100, u125_101, u125_102, u125_104, u125_105, u125_107, u125_110, u125_112, u125_113, u125_114, u125_117, u125_118, u125_120, u125_121, u125_124, u125_125, u125_126, u125_129, u125_131, hT_102, e123, e0, e1, e122, t0, t2, t4, iI_shl1, iI_or, if_pos, if_neg, ↓reduceIte, false_and, and_false, false_or, or_false, ite_not, decide_true, decide_false, Bool.true_eq_false, Bool.false_eq_true, decide_eq_true_eq, decide_eq_false_iff_not, hp_I, hp_sI, hp_N, ev_k_s, ev_k_n, true_and, and_true, true_or, or_true, not_true_eq_false, not_false_eq_true, if_true, if_false, ite_self, Option.some.injEq, exists_eq_left', nb_0, nb_1, nb_z, zI_t, zI_f, zI_e, cat_i, cat_r, cat_n, iI_add, iI_sub, iI_mul, iI_neg, iI_lt, iI_le, iI_eq, iI_idx, iI_inT, iI_ne0, ite_false, ite_true, iN_0, iN_1, Int.reduceAdd, Int.reduceSub, Int.reduceMul, Int.reduceNeg, Int.reduceDiv, Int.reduceMod, Int.reduceEq, Int.reduceLT, Int.reduceLE, Int.reduceToNat, Nat.reduceAdd, Nat.reduceSub, Nat.reduceMul, Nat.reduceLT, Nat.reduceLeDiff, Nat.reduceEqDiff, Int.cast_ofNat_Int, Std.le_refl, and_self, Int.toNat_natCast, Int.toNat_zero, Nat.le_refl]
      rfl
    · rw [tns_6]
      simp only [Int.cast_ofNat_Int] at e1
      simp (disch := first | exact cat_i _ | exact cat_r _ | exact cat_n | omega) only [e125, u125_0, u125_1, u125_4, u125_5, u125_6, u125_7, u125_10, u125_13, u125_14, u125_15, u125_16, u125_17, u125_20, u125_21, u125_22, u125_24, u125_27, u125_28, u125_29, u125_30, u125_32, u125_35, u125_36, u125_37, u125_38, u125_41, u125_42, u125_43, u125_44, u125_46, u125_47, u125_48, u125_51, u125_52, u125_54, u125_57, u125_58, u125_59, u125_60, u125_63, u125_64, u125_65, u125_66, u125_68, u125_69, u125_70, u125_73, u125_74, u125_77, u125_78, u125_79, u125_80, u125_83, u125_85, u125_88, u125_89, u125_90, u125_91, u125_92, u125_95, u125_97, u125_100, u125_101, u125_102, u125_104, u125_105, u125_107, u125_110, u125_112, u125_113, u125_114, u125_117, u125_118, u125_120, u125_121, u125_124, u125_125, u125_126, u125_129, u125_131, hT_102, e123, e0, e1, e122, t0, t2, t5, iI_shl1, iI_or, if_pos, if_neg, ↓reduceIte, false_and, and_false, false_or, or_false, ite_not, decide_true, decide_false, Bool.true_eq_false, Bool.false_eq_true, decide_eq_true_eq, decide_eq_false_iff_not, hp_I, hp_sI, hp_N, ev_k_s, ev_k_n, true_and, and_true, true_or, or_true, not_true_eq_false, not_false_eq_true, if_true, if_false, ite_self, Option.some.injEq, exists_eq_left', nb_0, nb_1, nb_z, zI_t, zI_f, zI_e, cat_i, cat_r, cat_n, iI_add, iI_sub, iI_mul, iI_neg, iI_lt, iI_le, iI_eq, iI_idx, iI_inT, iI_ne0, ite_false, ite_true, iN_0, iN_1, Int.reduceAdd, Int.reduceSub, Int.reduceMul, Int.reduceNeg, Int.reduceDiv, Int.reduceMod, Int.reduceEq, Int.reduceLT, Int.reduceLE, Int.reduceToNat, Nat.reduceAdd, Nat.reduceSub, Nat.reduceMul, Nat.reduceLT, Nat.reduceLeDiff, Nat.reduceEqDiff, Int.cast_ofNat_Int, Std.le_refl, and_self, Int.toNat_natCast, Int.toNat_zero, Nat.le_refl]
      rfl
    · rw [tns_64]
      simp only [Int.cast_ofNat_Int] at e1
      simp (disch := first | exact cat_i _ | exact cat_r _ | exact cat_n | omega) only [e125, u125_0, u125_1, u125_4, u125_5, u125_6, u125_7, u125_10, u125_13, u125_14, u125_15, u125_16, u125_17, u125_20, u125_21, u125_22, u125_24, u125_27, u125_28, u125_29, u125_30, u125_32, u125_35, u125_36, u125_37, u125_38, u125_41, u125_42, u125_43, u125_44, u125_46, u125_47, u125_48, u125_51, u125_52, u125_54, u125_57, u125_58, u125_59, u125_60, u125_63, u125_64, u125_65, u125_66, u125_68, u125_69, u125_70, u125_73, u125_74, u125_77, u125_78, u125_79, u125_80, u125_83, u125_85, u125_88, u125_89, u125_90, u125_91, u125_92, u125_95, u125_97, u125_100, u125_101, u125_102, u125_104, u125_105, u125_107, u125_110, u125_112, u125_113, u125_114, u125_117, u125_118, u125_120, u125_121, u125_124, u125_125, u125_126, u125_129, u125_131, hT_102, e123, e0, e1, e122, t0, t3, t5, iI_shl1, iI_or, if_pos, if_neg, ↓reduceIte, false_and, and_false, false_or, or_false, ite_not, decide_true, decide_false, Bool.true_eq_false, Bool.false_eq_true, decide_eq_true_eq, decide_eq_false_iff_not, hp_I, hp_sI, hp_N, ev_k_s, ev_k_n, true_and, and_true, true_or, or_true, not_true_eq_false, not_false_eq_true, if_true, if_false, ite_self, Option.some.injEq, exists_eq_left', nb_0, nb_1, nb_z, zI_t, zI_f, zI_e, cat_i, cat_r, cat_n, iI_add, iI_sub, iI_mul, iI_neg, iI_lt, iI_le, iI_eq, iI_idx, iI_inT, iI_ne0, ite_false, ite_true, iN_0, iN_1, Int.reduceAdd, Int.reduceSub, Int.reduceMul, Int.reduceNeg, Int.reduceDiv, Int.reduceMod, Int.reduceEq, Int.reduceLT, Int.reduceLE, Int.reduceToNat, Nat.reduceAdd, Nat.reduceSub, Nat.reduceMul, Nat.reduceLT, Nat.reduceLeDiff, Nat.reduceEqDiff, Int.cast_ofNat_Int, Std.le_refl, and_self, Int.toNat_natCast, Int.toNat_zero, Nat.le_refl]
      rfl
    · rw [tns_7]
      simp only [Int.cast_ofNat_Int] at e1
      simp (disch := first | exact cat_i _ | exact cat_r _ | exact cat_n | omega) only [e125, u125_0, u125_1, u125_4, u125_5, u125_6, u125_7, u125_10, u125_13, u125_14, u125_15, u125_16, u125_17, u125_20, u125_21, u125_22, u125_24, u125_27, u125_28, u125_29, u125_30, u125_32, u125_35, u125_36, u125_37, u125_38, u125_41, u125_42, u125_43, u125_44, u125_46, u125_47, u125_48, u125_51, u125_52, u125_54, u125_57, u125_58, u125_59, u125_60, u125_63, u125_64, u125_65, u125_66, u125_68, u125_69, u125_70, u125_73, u125_74, u125_77, u125_78, u125_79, u125_80, u125_83, u125_85, u125_88, u125_89, u125_90, u125_91, u125_92, u125_95, u125_97, u125_100, u125_101, u125_102, u125_104, u125_105, u125_107, u125_110, u125_112, u125_113, u125_114, u125_117, u125_118, u125_120, u125_121, u125_124, u125_125, u125_126, u125_129, u125_131, hT_102, e123, e0, e1, e122, t0, t2, t4, t6, iI_shl1, iI_or, if_pos, if_neg, ↓reduceIte, false_and, and_false, false_or, or_false, ite_not, decide_true, decide_false, Bool.true_eq_false, Bool.false_eq_true, decide_eq_true_eq, decide_eq_false_iff_not, hp_I, hp_sI, hp_N, ev_k_s, ev_k_n, true_and, and_true, true_or, or_true, not_true_eq_false, not_false_eq_true, if_true, if_false, ite_self, Option.some.injEq, exists_eq_left', nb_0, nb_1, nb_z, zI_t, zI_f, zI_e, cat_i, cat_r, cat_n, iI_add, iI_sub, iI_mul, iI_neg, iI_lt, iI_le, iI_eq, iI_idx, iI_inT, iI_ne0, ite_false, ite_true, iN_0, iN_1, Int.reduceAdd, Int.reduceSub, Int.reduceMul, Int.reduceNeg, Int.reduceDiv, Int.reduceMod, Int.reduceEq, Int.reduceLT, Int.reduceLE, Int.reduceToNat, Nat.reduceAdd, Nat.reduceSub, Nat.reduceMul, Nat.reduceLT, Nat.reduceLeDiff, Nat.reduceEqDiff, Int.cast_ofNat_Int, Std.le_refl, and_self, Int.toNat_natCast, Int.toNat_zero, Nat.le_refl]
      rfl
end MS
