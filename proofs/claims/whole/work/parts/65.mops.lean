/-- one chord's cells -/
def CC (K : Nat → Nat → Int32) (o : Nat) (x : Ch) : Prop := K 103 o = iI (x.1 : Int) ∧ K 103 (o + 1) = iI (x.2.1 : Int) ∧ K 103 (o + 2) = zI x.2.2.isSome ∧ ∀ v, x.2.2 = some v → K 103 (o + 3) = iI (v.1 : Int) ∧ K 103 (o + 4) = iI (v.2.1 : Int) ∧ K 103 (o + 5) = iI (v.2.2 : Int)
theorem CC_o {I J : Nat → Nat → Int32} {o o' : Nat} {x : Ch} (h : CC I o x) (ho : ∀ j, j < 6 → J 103 (o' + j) = I 103 (o + j)) : CC J o' x := by
  obtain ⟨h0, h1, h2, h3⟩ := h
  refine ⟨(ho 0 (by omega)).trans h0, (ho 1 (by omega)).trans h1, (ho 2 (by omega)).trans h2, fun v e => ?_⟩
  obtain ⟨t0, t1, t2⟩ := h3 v e
  exact ⟨(ho 3 (by omega)).trans t0, (ho 4 (by omega)).trans t1, (ho 5 (by omega)).trans t2⟩
section MA
variable {L : Nat} {σ : Nat → Nat} {I J K : Nat → Nat → Int32} {Q : Option Value → fb_H → Prop} {h : fb_H} {x y z iv : Int} {S : Co} {n m a o a' o' b b' f : Nat} {v w : Nat × Nat × Nat} {A : AS} {H : List Co}
theorem RepS_CC (hr : RepS I 103 0 S) (hn : n < S.2.length) : CC I (1 + 6 * n) (ch S n) := by
  have := hr.2.2.2.2 n hn
  rw [Nat.zero_add] at this
  exact this
theorem RepS_mk (h0 : I 103 0 = iI (S.2.length : Int)) (h1 : I 103 61 = iI (S.1.1 : Int)) (h2 : I 103 62 = iI (S.1.2.1 : Int)) (h3 : I 103 63 = iI (S.1.2.2 : Int)) (h4 : ∀ c, c < S.2.length → CC I (1 + 6 * c) (ch S c)) : RepS I 103 0 S := ⟨h0, h1, h2, h3, fun c hc => by rw [Nat.zero_add]; exact h4 c hc⟩
theorem RepS_0 (hr : RepS I 103 0 S) : I 103 0 = iI (S.2.length : Int) ∧ I 103 61 = iI (S.1.1 : Int) ∧ I 103 62 = iI (S.1.2.1 : Int) ∧ I 103 63 = iI (S.1.2.2 : Int) := ⟨hr.1, hr.2.1, hr.2.2.1, hr.2.2.2.1⟩
/-- one chord put anew -/
theorem RepS_gv {vo : Option (Nat × Nat × Nat)} (hr : RepS I 103 0 S) (hl : S.2.length ≤ 10) (hn : n < S.2.length) (hf : ∀ q, (q < 1 + 6 * n ∨ 1 + 6 * n + 6 ≤ q) → K 103 q = I 103 q) (hc : CC K (1 + 6 * n) ((ch S n).1, (ch S n).2.1, vo)) : RepS K 103 0 (gv S n vo) := by
  obtain ⟨h0, h1, h2, h3⟩ := RepS_0 hr
  refine RepS_mk (by rw [len_gv, hf _ (by omega)]; exact h0) ((hf _ (by omega)).trans h1) ((hf _ (by omega)).trans h2) ((hf _ (by omega)).trans h3) fun c hc' => ?_
  rw [len_gv] at hc'
  rw [ch_gv hn]
  by_cases q : c = n
  · subst q; rw [if_pos rfl]; exact hc
  · rw [if_neg q]
    exact CC_o (RepS_CC hr hc') fun j hj => hf _ (by omega)
theorem RepS_stk (hr : RepS I 103 0 S) (hl : S.2.length ≤ 10) (hn : n < 3) : RepS (fb_u2 I 103 (61 + n) (iI (m : Int))) 103 0 (stk S n m) := by
  obtain ⟨h0, h1, h2, h3⟩ := RepS_0 hr
  refine RepS_mk ((u2_ne (by omega)).trans h0) ?_ ?_ ?_ fun c hc => show CC _ _ (ch S c) from CC_o (RepS_CC hr (show c < S.2.length from hc)) fun j hj => ?_
  · show _ = iI ((if n = 0 then m else S.1.1 : Nat) : Int)
    split
    · subst n; rw [u2_eq]
    · rw [u2_ne (by omega)]; exact h1
  · show _ = iI ((if n = 1 then m else S.1.2.1 : Nat) : Int)
    split
    · subst n; rw [u2_eq]
    · rw [u2_ne (by omega)]; exact h2
  · show _ = iI ((if n = 2 then m else S.1.2.2 : Nat) : Int)
    split
    · subst n; rw [u2_eq]
    · rw [u2_ne (by omega)]; exact h3
  · have hc2 : c < S.2.length := hc
    exact u2_ne (by omega)
/-- set -/
theorem m149 (hM : RepM I A) (hA : AV A) (hx1 : -2147483648 ≤ x) (hx2 : x < 2147483648) (hy1 : -2147483648 ≤ y) (hy2 : y < 2147483648) : MR L σ I 149 [.ref 102, .int (iI x), .int (iI y)] (opSet A x y) := by
  unfold opSet
  split
  · rename_i hh
    obtain ⟨J, j1, j2, j3, j4⟩ := mchg (L := L) (σ := σ) hM hA
    have hl := hA.1.2.2.2.1
    have hv' : y = ((y.toNat : Nat) : Int) := by omega
    have k1 := RepS_stk (n := x.toNat) (m := y.toNat) j2 hl (by omega)
    obtain ⟨r1, r2⟩ := j4 _ _ k1 (fun i q a b => u2_ne (by omega))
    rw [← hv'] at r1 r2
    obtain ⟨h0, h1, h2, h3⟩ := RepS_0 j2
    refine ⟨_, fun Q => ?_, r1, r2⟩
    clear r1 r2 k1
    rcases (show x = 0 ∨ x = 1 ∨ x = 2 by omega) with rfl | rfl | rfl
    · have hd : 0 ≤ y ∧ y ≤ 11 := by omega
      simp (disch := first | exact cat_i _ | exact cat_r _ | exact cat_n | omega) only [e149, u149_0, u149_1, u149_4, u149_5, u149_6, u149_8, u149_11, u149_14, u149_15, u149_16, u149_19, u149_20, u149_22, u149_24, u149_27, u149_30, u149_31, u149_32, u149_35, u149_36, u149_37, u149_39, u149_42, u149_45, u149_46, u149_49, u149_50, u149_51, u149_52, u149_55, u149_57, u149_58, u149_59, u149_62, u149_63, u149_66, u149_68, u149_69, u149_70, u149_71, u149_73, u149_74, u149_77, u149_79, u149_80, u149_81, u149_82, u149_83, u149_85, hT_102, hT_103, hR_102_0, c113, zI_dt hd, j1, h1, if_pos, if_neg, ↓reduceIte, false_and, and_false, false_or, or_false, ite_not, decide_true, decide_false, Bool.true_eq_false, Bool.false_eq_true, decide_eq_true_eq, decide_eq_false_iff_not, hp_I, hp_sI, hp_N, ev_k_s, ev_k_n, true_and, and_true, true_or, or_true, not_true_eq_false, not_false_eq_true, if_true, if_false, ite_self, Option.some.injEq, exists_eq_left', nb_0, nb_1, nb_z, zI_t, zI_f, zI_e, cat_i, cat_r, cat_n, iI_add, iI_sub, iI_mul, iI_neg, iI_lt, iI_le, iI_eq, iI_idx, iI_inT, iI_ne0, ite_false, ite_true, iN_0, iN_1, Int.reduceAdd, Int.reduceSub, Int.reduceMul, Int.reduceNeg, Int.reduceDiv, Int.reduceMod, Int.reduceEq, Int.reduceLT, Int.reduceLE, Int.reduceToNat, Nat.reduceAdd, Nat.reduceSub, Nat.reduceMul, Nat.reduceLT, Nat.reduceLeDiff, Nat.reduceEqDiff, Int.cast_ofNat_Int, Std.le_refl, and_self, Int.toNat_natCast, Int.toNat_zero, Nat.le_refl]
      all_goals rfl
    · have hd : 7 ≤ y ∧ y ≤ 24 := by omega
      simp (disch := first | exact cat_i _ | exact cat_r _ | exact cat_n | omega) only [e149, u149_0, u149_1, u149_4, u149_5, u149_6, u149_8, u149_11, u149_14, u149_15, u149_16, u149_19, u149_20, u149_22, u149_24, u149_27, u149_30, u149_31, u149_32, u149_35, u149_36, u149_37, u149_39, u149_42, u149_45, u149_46, u149_49, u149_50, u149_51, u149_52, u149_55, u149_57, u149_58, u149_59, u149_62, u149_63, u149_66, u149_68, u149_69, u149_70, u149_71, u149_73, u149_74, u149_77, u149_79, u149_80, u149_81, u149_82, u149_83, u149_85, hT_102, hT_103, hR_102_0, c113, zI_dt hd, j1, h2, if_pos, if_neg, ↓reduceIte, false_and, and_false, false_or, or_false, ite_not, decide_true, decide_false, Bool.true_eq_false, Bool.false_eq_true, decide_eq_true_eq, decide_eq_false_iff_not, hp_I, hp_sI, hp_N, ev_k_s, ev_k_n, true_and, and_true, true_or, or_true, not_true_eq_false, not_false_eq_true, if_true, if_false, ite_self, Option.some.injEq, exists_eq_left', nb_0, nb_1, nb_z, zI_t, zI_f, zI_e, cat_i, cat_r, cat_n, iI_add, iI_sub, iI_mul, iI_neg, iI_lt, iI_le, iI_eq, iI_idx, iI_inT, iI_ne0, ite_false, ite_true, iN_0, iN_1, Int.reduceAdd, Int.reduceSub, Int.reduceMul, Int.reduceNeg, Int.reduceDiv, Int.reduceMod, Int.reduceEq, Int.reduceLT, Int.reduceLE, Int.reduceToNat, Nat.reduceAdd, Nat.reduceSub, Nat.reduceMul, Nat.reduceLT, Nat.reduceLeDiff, Nat.reduceEqDiff, Int.cast_ofNat_Int, Std.le_refl, and_self, Int.toNat_natCast, Int.toNat_zero, Nat.le_refl]
      all_goals rfl
    · have hd : 1 ≤ y ∧ y ≤ 12 := by omega
      simp (disch := first | exact cat_i _ | exact cat_r _ | exact cat_n | omega) only [e149, u149_0, u149_1, u149_4, u149_5, u149_6, u149_8, u149_11, u149_14, u149_15, u149_16, u149_19, u149_20, u149_22, u149_24, u149_27, u149_30, u149_31, u149_32, u149_35, u149_36, u149_37, u149_39, u149_42, u149_45, u149_46, u149_49, u149_50, u149_51, u149_52, u149_55, u149_57, u149_58, u149_59, u149_62, u149_63, u149_66, u149_68, u149_69, u149_70, u149_71, u149_73, u149_74, u149_77, u149_79, u149_80, u149_81, u149_82, u149_83, u149_85, hT_102, hT_103, hR_102_0, c113, zI_dt hd, j1, h3, if_pos, if_neg, ↓reduceIte, false_and, and_false, false_or, or_false, ite_not, decide_true, decide_false, Bool.true_eq_false, Bool.false_eq_true, decide_eq_true_eq, decide_eq_false_iff_not, hp_I, hp_sI, hp_N, ev_k_s, ev_k_n, true_and, and_true, true_or, or_true, not_true_eq_false, not_false_eq_true, if_true, if_false, ite_self, Option.some.injEq, exists_eq_left', nb_0, nb_1, nb_z, zI_t, zI_f, zI_e, cat_i, cat_r, cat_n, iI_add, iI_sub, iI_mul, iI_neg, iI_lt, iI_le, iI_eq, iI_idx, iI_inT, iI_ne0, ite_false, ite_true, iN_0, iN_1, Int.reduceAdd, Int.reduceSub, Int.reduceMul, Int.reduceNeg, Int.reduceDiv, Int.reduceMod, Int.reduceEq, Int.reduceLT, Int.reduceLE, Int.reduceToNat, Nat.reduceAdd, Nat.reduceSub, Nat.reduceMul, Nat.reduceLT, Nat.reduceLeDiff, Nat.reduceEqDiff, Int.cast_ofNat_Int, Std.le_refl, and_self, Int.toNat_natCast, Int.toNat_zero, Nat.le_refl]
      all_goals rfl
  · rename_i hh
    refine MR_id hM fun Q => ?_
    by_cases hr : 0 ≤ x ∧ x < 3
    · rcases (show x = 0 ∨ x = 1 ∨ x = 2 by omega) with rfl | rfl | rfl
      · have hd : ¬ (0 ≤ y ∧ y ≤ 11) := by omega
        simp (disch := first | exact cat_i _ | exact cat_r _ | exact cat_n | omega) only [u149_0, u149_1, u149_4, u149_5, u149_6, u149_8, u149_11, u149_14, u149_15, u149_16, u149_19, u149_20, u149_22, u149_24, u149_27, u149_30, u149_31, u149_32, u149_35, u149_36, u149_37, u149_39, u149_42, u149_45, u149_46, u149_49, u149_50, u149_51, u149_52, u149_55, u149_57, e149, hT_102, c113, zI_df hd, if_pos, if_neg, ↓reduceIte, false_and, and_false, false_or, or_false, ite_not, decide_true, decide_false, Bool.true_eq_false, Bool.false_eq_true, decide_eq_true_eq, decide_eq_false_iff_not, hp_I, hp_sI, hp_N, ev_k_s, ev_k_n, true_and, and_true, true_or, or_true, not_true_eq_false, not_false_eq_true, if_true, if_false, ite_self, Option.some.injEq, exists_eq_left', nb_0, nb_1, nb_z, zI_t, zI_f, zI_e, cat_i, cat_r, cat_n, iI_add, iI_sub, iI_mul, iI_neg, iI_lt, iI_le, iI_eq, iI_idx, iI_inT, iI_ne0, ite_false, ite_true, iN_0, iN_1, Int.reduceAdd, Int.reduceSub, Int.reduceMul, Int.reduceNeg, Int.reduceDiv, Int.reduceMod, Int.reduceEq, Int.reduceLT, Int.reduceLE, Int.reduceToNat, Nat.reduceAdd, Nat.reduceSub, Nat.reduceMul, Nat.reduceLT, Nat.reduceLeDiff, Nat.reduceEqDiff, Int.cast_ofNat_Int, Std.le_refl, and_self, Int.toNat_natCast, Int.toNat_zero, Nat.le_refl]
      · have hd : ¬ (7 ≤ y ∧ y ≤ 24) := by omega
        simp (disch := first | exact cat_i _ | exact cat_r _ | exact cat_n | omega) only [u149_0, u149_1, u149_4, u149_5, u149_6, u149_8, u149_11, u149_14, u149_15, u149_16, u149_19, u149_20, u149_22, u149_24, u149_27, u149_30, u149_31, u149_32, u149_35, u149_36, u149_37, u149_39, u149_42, u149_45, u149_46, u149_49, u149_50, u149_51, u149_52, u149_55, u149_57, e149, hT_102, c113, zI_df hd, if_pos, if_neg, ↓reduceIte, false_and, and_false, false_or, or_false, ite_not, decide_true, decide_false, Bool.true_eq_false, Bool.false_eq_true, decide_eq_true_eq, decide_eq_false_iff_not, hp_I, hp_sI, hp_N, ev_k_s, ev_k_n, true_and, and_true, true_or, or_true, not_true_eq_false, not_false_eq_true, if_true, if_false, ite_self, Option.some.injEq, exists_eq_left', nb_0, nb_1, nb_z, zI_t, zI_f, zI_e, cat_i, cat_r, cat_n, iI_add, iI_sub, iI_mul, iI_neg, iI_lt, iI_le, iI_eq, iI_idx, iI_inT, iI_ne0, ite_false, ite_true, iN_0, iN_1, Int.reduceAdd, Int.reduceSub, Int.reduceMul, Int.reduceNeg, Int.reduceDiv, Int.reduceMod, Int.reduceEq, Int.reduceLT, Int.reduceLE, Int.reduceToNat, Nat.reduceAdd, Nat.reduceSub, Nat.reduceMul, Nat.reduceLT, Nat.reduceLeDiff, Nat.reduceEqDiff, Int.cast_ofNat_Int, Std.le_refl, and_self, Int.toNat_natCast, Int.toNat_zero, Nat.le_refl]
      · have hd : ¬ (1 ≤ y ∧ y ≤ 12) := by omega
        simp (disch := first | exact cat_i _ | exact cat_r _ | exact cat_n | omega) only [u149_0, u149_1, u149_4, u149_5, u149_6, u149_8, u149_11, u149_14, u149_15, u149_16, u149_19, u149_20, u149_22, u149_24, u149_27, u149_30, u149_31, u149_32, u149_35, u149_36, u149_37, u149_39, u149_42, u149_45, u149_46, u149_49, u149_50, u149_51, u149_52, u149_55, u149_57, e149, hT_102, c113, zI_df hd, if_pos, if_neg, ↓reduceIte, false_and, and_false, false_or, or_false, ite_not, decide_true, decide_false, Bool.true_eq_false, Bool.false_eq_true, decide_eq_true_eq, decide_eq_false_iff_not, hp_I, hp_sI, hp_N, ev_k_s, ev_k_n, true_and, and_true, true_or, or_true, not_true_eq_false, not_false_eq_true, if_true, if_false, ite_self, Option.some.injEq, exists_eq_left', nb_0, nb_1, nb_z, zI_t, zI_f, zI_e, cat_i, cat_r, cat_n, iI_add, iI_sub, iI_mul, iI_neg, iI_lt, iI_le, iI_eq, iI_idx, iI_inT, iI_ne0, ite_false, ite_true, iN_0, iN_1, Int.reduceAdd, Int.reduceSub, Int.reduceMul, Int.reduceNeg, Int.reduceDiv, Int.reduceMod, Int.reduceEq, Int.reduceLT, Int.reduceLE, Int.reduceToNat, Nat.reduceAdd, Nat.reduceSub, Nat.reduceMul, Nat.reduceLT, Nat.reduceLeDiff, Nat.reduceEqDiff, Int.cast_ofNat_Int, Std.le_refl, and_self, Int.toNat_natCast, Int.toNat_zero, Nat.le_refl]
    · have g0 : ¬ x = 0 := by omega
      have g1 : ¬ x = 1 := by omega
      have g2 : ¬ x = 2 := by omega
      simp (disch := first | exact cat_i _ | exact cat_r _ | exact cat_n | omega) only [u149_0, u149_1, u149_4, u149_5, u149_6, u149_8, u149_11, u149_14, u149_15, u149_16, u149_19, u149_20, u149_22, u149_24, u149_27, u149_30, u149_31, u149_32, u149_35, u149_36, u149_37, u149_39, u149_42, u149_45, u149_46, u149_49, u149_50, u149_51, u149_52, u149_55, u149_57, e149, hT_102, g0, g1, g2, if_pos, if_neg, ↓reduceIte, false_and, and_false, false_or, or_false, ite_not, decide_true, decide_false, Bool.true_eq_false, Bool.false_eq_true, decide_eq_true_eq, decide_eq_false_iff_not, hp_I, hp_sI, hp_N, ev_k_s, ev_k_n, true_and, and_true, true_or, or_true, not_true_eq_false, not_false_eq_true, if_true, if_false, ite_self, Option.some.injEq, exists_eq_left', nb_0, nb_1, nb_z, zI_t, zI_f, zI_e, cat_i, cat_r, cat_n, iI_add, iI_sub, iI_mul, iI_neg, iI_lt, iI_le, iI_eq, iI_idx, iI_inT, iI_ne0, ite_false, ite_true, iN_0, iN_1, Int.reduceAdd, Int.reduceSub, Int.reduceMul, Int.reduceNeg, Int.reduceDiv, Int.reduceMod, Int.reduceEq, Int.reduceLT, Int.reduceLE, Int.reduceToNat, Nat.reduceAdd, Nat.reduceSub, Nat.reduceMul, Nat.reduceLT, Nat.reduceLeDiff, Nat.reduceEqDiff, Int.cast_ofNat_Int, Std.le_refl, and_self, Int.toNat_natCast, Int.toNat_zero, Nat.le_refl]
/-- lays -/
theorem c150 (hn : n < 10) {y z : Int32} : ∃ K, (∀ Q : Option Value → fb_H → Prop, ev_c 150 [.ref 102, .int (iI (n : Int)), .int y, .int z] (hp L σ I) Q = Q none (hp L σ K)) ∧ (K 103 (1 + 6 * n) = y ∧ K 103 (1 + 6 * n + 1) = z ∧ K 103 (1 + 6 * n + 2) = iI 0) ∧ ∀ i q, ¬ (i = 103 ∧ 1 + 6 * n ≤ q ∧ q < 1 + 6 * n + 6) → K i q = I i q := by
  have f0 : (1 + 6 * (n : Int)).toNat = 1 + 6 * n := by omega
  have f1 : (1 + 6 * (n : Int) + 1).toNat = 1 + 6 * n + 1 := by omega
  obtain ⟨K, ⟨p1, p2⟩, e⟩ := lx (fun Q (A : Nat → Nat → Int32) (k : Nat) => ev_w 150 31 [.ref 102, .int (iI (n : Int)), .int y, .int z, .int (iI (1 + 6 * (n : Int))), .int (iI ((2 + k : Nat) : Int))] [] (hp L σ A) Q) (fun A k => (∀ i q, ¬ (i = 103 ∧ 1 + 6 * n + 2 ≤ q ∧ q < 1 + 6 * n + 6) → A i q = fb_u2 (fb_u2 I 103 (1 + 6 * n) y) 103 (1 + 6 * n + 1) z i q) ∧ (0 < k → A 103 (1 + 6 * n + 2) = iI 0)) 4 (fun A k hk hp' => by
    obtain ⟨p1, p2⟩ := hp'
    have f2 : (1 + 6 * (n : Int) + ((2 + k : Nat) : Int)).toNat = 1 + 6 * n + 2 + k := by omega
    have f3 : ((2 + k : Nat) : Int) + 1 = ((2 + (k + 1) : Nat) : Int) := by omega
    refine ⟨fb_u2 A 103 (1 + 6 * n + 2 + k) (iI 0), ⟨fun i q a => (u2_ne (by omega)).trans (p1 i q a), fun _ => ?_⟩, fun Q => ?_⟩
    · by_cases q : k = 0
      · subst q; exact u2_eq
      · rw [u2_ne (by omega)]; exact p2 (by omega)
    · show ev_w 150 31 [.ref 102, .int (iI (n : Int)), .int y, .int z, .int (iI (1 + 6 * (n : Int))), .int (iI ((2 + k : Nat) : Int))] [] (hp L σ A) Q = _
      rw [u150_31]
      simp (disch := first | exact cat_i _ | exact cat_r _ | exact cat_n | omega) only [u150_33, u150_35, u150_38, u150_39, u150_42, u150_44, u150_46, u150_47, u150_48, u150_49, u150_52, hT_102, hT_103, hR_102_0, f2, f3, if_pos, if_neg, ↓reduceIte, false_and, and_false, false_or, or_false, ite_not, decide_true, decide_false, Bool.true_eq_false, Bool.false_eq_true, decide_eq_true_eq, decide_eq_false_iff_not, hp_I, hp_sI, hp_N, ev_k_s, ev_k_n, true_and, and_true, true_or, or_true, not_true_eq_false, not_false_eq_true, if_true, if_false, ite_self, Option.some.injEq, exists_eq_left', nb_0, nb_1, nb_z, zI_t, zI_f, zI_e, cat_i, cat_r, cat_n, iI_add, iI_sub, iI_mul, iI_neg, iI_lt, iI_le, iI_eq, iI_idx, iI_inT, iI_ne0, ite_false, ite_true, iN_0, iN_1, Int.reduceAdd, Int.reduceSub, Int.reduceMul, Int.reduceNeg, Int.reduceDiv, Int.reduceMod, Int.reduceEq, Int.reduceLT, Int.reduceLE, Int.reduceToNat, Nat.reduceAdd, Nat.reduceSub, Nat.reduceMul, Nat.reduceLT, Nat.reduceLeDiff, Nat.reduceEqDiff, Int.cast_ofNat_Int, Std.le_refl, and_self, Int.toNat_natCast, Int.toNat_zero, Nat.le_refl]) 4 0 (fb_u2 (fb_u2 I 103 (1 + 6 * n) y) 103 (1 + 6 * n + 1) z) (by omega) ⟨fun _ _ _ => rfl, fun h => absurd h (by omega)⟩
  refine ⟨K, fun Q => ?_, ⟨?_, ?_, p2 (by omega)⟩, fun i q a => ?_⟩
  · have e0 := e Q
    clear e
    simp (disch := first | exact cat_i _ | exact cat_r _ | exact cat_n | omega) only [u150_0, u150_1, u150_3, u150_4, u150_5, u150_6, u150_8, u150_9, u150_12, u150_14, u150_15, u150_16, u150_17, u150_18, u150_19, u150_22, u150_24, u150_25, u150_26, u150_27, u150_28, u150_29, e150, hT_102, hT_103, hR_102_0, f0, f1, Int.add_zero, if_pos, if_neg, ↓reduceIte, false_and, and_false, false_or, or_false, ite_not, decide_true, decide_false, Bool.true_eq_false, Bool.false_eq_true, decide_eq_true_eq, decide_eq_false_iff_not, hp_I, hp_sI, hp_N, ev_k_s, ev_k_n, true_and, and_true, true_or, or_true, not_true_eq_false, not_false_eq_true, if_true, if_false, ite_self, Option.some.injEq, exists_eq_left', nb_0, nb_1, nb_z, zI_t, zI_f, zI_e, cat_i, cat_r, cat_n, iI_add, iI_sub, iI_mul, iI_neg, iI_lt, iI_le, iI_eq, iI_idx, iI_inT, iI_ne0, ite_false, ite_true, iN_0, iN_1, Int.reduceAdd, Int.reduceSub, Int.reduceMul, Int.reduceNeg, Int.reduceDiv, Int.reduceMod, Int.reduceEq, Int.reduceLT, Int.reduceLE, Int.reduceToNat, Nat.reduceAdd, Nat.reduceSub, Nat.reduceMul, Nat.reduceLT, Nat.reduceLeDiff, Nat.reduceEqDiff, Int.cast_ofNat_Int, Std.le_refl, and_self, Int.toNat_natCast, Int.toNat_zero, Nat.le_refl]
    refine Eq.trans e0 ?_
    simp (disch := first | exact cat_i _ | exact cat_r _ | exact cat_n | omega) only [u150_31, u150_33, u150_35, u150_55, Int.cast_ofNat_Int, if_pos, if_neg, ↓reduceIte, false_and, and_false, false_or, or_false, ite_not, decide_true, decide_false, Bool.true_eq_false, Bool.false_eq_true, decide_eq_true_eq, decide_eq_false_iff_not, hp_I, hp_sI, hp_N, ev_k_s, ev_k_n, true_and, and_true, true_or, or_true, not_true_eq_false, not_false_eq_true, if_true, if_false, ite_self, Option.some.injEq, exists_eq_left', nb_0, nb_1, nb_z, zI_t, zI_f, zI_e, cat_i, cat_r, cat_n, iI_add, iI_sub, iI_mul, iI_neg, iI_lt, iI_le, iI_eq, iI_idx, iI_inT, iI_ne0, ite_false, ite_true, iN_0, iN_1, Int.reduceAdd, Int.reduceSub, Int.reduceMul, Int.reduceNeg, Int.reduceDiv, Int.reduceMod, Int.reduceEq, Int.reduceLT, Int.reduceLE, Int.reduceToNat, Nat.reduceAdd, Nat.reduceSub, Nat.reduceMul, Nat.reduceLT, Nat.reduceLeDiff, Nat.reduceEqDiff, Int.cast_ofNat_Int, Std.le_refl, and_self, Int.toNat_natCast, Int.toNat_zero, Nat.le_refl]
  · rw [p1 _ _ (by omega), u2_ne (by omega), u2_eq]
  · rw [p1 _ _ (by omega), u2_eq]
  · rw [p1 _ _ (by omega), u2_ne (by omega), u2_ne (by omega)]
/-- sets -/
theorem c154 (hr : RepS I 103 0 S) (hl : S.2.length ≤ 10) (hn : n < S.2.length) (v : Nat × Nat × Nat) : ∃ K, (∀ Q : Option Value → fb_H → Prop, ev_c 154 [.ref 102, .int (iI (n : Int)), .int (iI (v.1 : Int)), .int (iI (v.2.1 : Int)), .int (iI (v.2.2 : Int))] (hp L σ I) Q = Q none (hp L σ K)) ∧ RepS K 103 0 (gv S n (some v)) ∧ ∀ i q, i ≠ 103 → K i q = I i q := by
  have f1 : (1 + 6 * (n : Int) + 2).toNat = 1 + 6 * n + 2 := by omega
  have f2 : (1 + 6 * (n : Int) + 3).toNat = 1 + 6 * n + 3 := by omega
  have f3 : (1 + 6 * (n : Int) + 3 + 1).toNat = 1 + 6 * n + 4 := by omega
  have f4 : (1 + 6 * (n : Int) + 3 + 2).toNat = 1 + 6 * n + 5 := by omega
  obtain ⟨c0, c1, c2, c3⟩ := RepS_CC hr hn
  refine ⟨fb_u2 (fb_u2 (fb_u2 (fb_u2 I 103 (1 + 6 * n + 2) (iI 1)) 103 (1 + 6 * n + 3) (iI (v.1 : Int))) 103 (1 + 6 * n + 4) (iI (v.2.1 : Int))) 103 (1 + 6 * n + 5) (iI (v.2.2 : Int)), fun Q => ?_, RepS_gv hr hl hn (fun q a => ?_) ⟨?_, ?_, ?_, fun u e => ?_⟩, fun i q a => ?_⟩
  · simp (disch := first | exact cat_i _ | exact cat_r _ | exact cat_n | omega) only [e154, u154_0, u154_1, u154_3, u154_4, u154_5, u154_6, u154_8, u154_9, u154_12, u154_14, u154_15, u154_16, u154_17, u154_18, u154_19, u154_22, u154_24, u154_25, u154_26, u154_27, u154_28, u154_29, u154_32, u154_34, u154_35, u154_36, u154_37, u154_38, u154_39, u154_40, u154_41, u154_44, u154_46, u154_47, u154_48, u154_49, u154_50, u154_52, u154_53, hT_102, hT_103, hR_102_0, f1, f2, f3, f4, if_pos, if_neg, ↓reduceIte, false_and, and_false, false_or, or_false, ite_not, decide_true, decide_false, Bool.true_eq_false, Bool.false_eq_true, decide_eq_true_eq, decide_eq_false_iff_not, hp_I, hp_sI, hp_N, ev_k_s, ev_k_n, true_and, and_true, true_or, or_true, not_true_eq_false, not_false_eq_true, if_true, if_false, ite_self, Option.some.injEq, exists_eq_left', nb_0, nb_1, nb_z, zI_t, zI_f, zI_e, cat_i, cat_r, cat_n, iI_add, iI_sub, iI_mul, iI_neg, iI_lt, iI_le, iI_eq, iI_idx, iI_inT, iI_ne0, ite_false, ite_true, iN_0, iN_1, Int.reduceAdd, Int.reduceSub, Int.reduceMul, Int.reduceNeg, Int.reduceDiv, Int.reduceMod, Int.reduceEq, Int.reduceLT, Int.reduceLE, Int.reduceToNat, Nat.reduceAdd, Nat.reduceSub, Nat.reduceMul, Nat.reduceLT, Nat.reduceLeDiff, Nat.reduceEqDiff, Int.cast_ofNat_Int, Std.le_refl, and_self, Int.toNat_natCast, Int.toNat_zero, Nat.le_refl]
  · rw [u2_ne (by omega), u2_ne (by omega), u2_ne (by omega), u2_ne (by omega)]
  · rw [u2_ne (by omega), u2_ne (by omega), u2_ne (by omega), u2_ne (by omega)]; exact c0
  · rw [u2_ne (by omega), u2_ne (by omega), u2_ne (by omega), u2_ne (by omega)]; exact c1
  · rw [u2_ne (by omega), u2_ne (by omega), u2_ne (by omega), u2_eq]; rfl
  · cases e
    refine ⟨?_, ?_, u2_eq⟩
    · rw [u2_ne (by omega), u2_ne (by omega), u2_eq]
    · rw [u2_ne (by omega), u2_eq]
  · rw [u2_ne (by omega), u2_ne (by omega), u2_ne (by omega), u2_ne (by omega)]
/-- voice -/
theorem flt_gv {S : Co} {n : Nat} {v : Nat × Nat × Nat} (hn : n < S.2.length) : flt (gv S n (some v)) n = flw S n v := by
  have e1 : ch (gv S n (some v)) n = ((ch S n).1, (ch S n).2.1, some v) := by rw [ch_gv hn, if_pos rfl]
  have e2 : pre (gv S n (some v)) n = pre S n := by
    cases n with
    | zero => rfl
    | succ n => show (ch (gv S (n + 1) (some v)) n).2.2 = (ch S n).2.2; rw [ch_gv hn, if_neg (by omega)]
  have e3 : (ch (gv S n (some v)) (n - 1)).1 = (ch S (n - 1)).1 := by
    by_cases q : n - 1 = n
    · rw [ch_gv hn, if_pos q, q]
    · rw [ch_gv hn, if_neg q]
  have e4 : (gv S n (some v)).1 = S.1 := rfl
  unfold flt
  rw [e1]
  dsimp only
  unfold flw tn
  rw [e1, e2, e3, e4]
end MA
