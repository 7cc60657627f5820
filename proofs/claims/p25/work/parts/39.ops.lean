abbrev figZ (f : Int) : Prop := f = 5 ∨ f = 6 ∨ f = 64 ∨ f = 7
def opChord (A : AS) (x b f : Int) : Int × AS := if ¬ (0 ≤ x ∧ x ≤ A.1.2.length) then (-1, A) else if ¬ ((36 ≤ b ∧ b ≤ 59) ∧ figZ f) then (-2, A) else if 10 ≤ A.1.2.length then (-4, A) else ((A.1.2.length : Int) + 1, (ins A.1 x.toNat (b.toNat, f.toNat, none), pus A.2.1 A.1, A.2.2))
def opIfv (A : AS) (x p q r : Int) : Int := if ¬ (0 ≤ x ∧ x < A.1.2.length) then -1 else if ¬ ((0 ≤ p ∧ p ≤ 99) ∧ (0 ≤ q ∧ q ≤ 99) ∧ (0 ≤ r ∧ r ≤ 99)) then -2 else (flw A.1 x.toNat (p.toNat, q.toNat, r.toNat) : Int)
def opVoice (A : AS) (x p q r : Int) : Int × AS := if (0 ≤ x ∧ x < A.1.2.length) ∧ (0 ≤ p ∧ p ≤ 99) ∧ (0 ≤ q ∧ q ≤ 99) ∧ (0 ≤ r ∧ r ≤ 99) then ((flw A.1 x.toNat (p.toNat, q.toNat, r.toNat) : Int), (gv A.1 x.toNat (some (p.toNat, q.toNat, r.toNat)), pus A.2.1 A.1, A.2.2)) else (opIfv A x p q r, A)
def opTr (A : AS) (z : Int) : Int × AS := if ¬ (-12 ≤ z ∧ z ≤ 12) then (-2, A) else if mvo A.1 z = true then ((((mov A.1 z).1.1 : Nat) : Int), (mov A.1 z, pus A.2.1 A.1, A.2.2)) else (-5, A)
section OQ
variable {L : Nat} {σ : Nat → Nat} {I : Nat → Nat → Int32} {A : AS} {x y z w p q r : Int} {Q : Option Value → fb_H → Prop}
theorem c107g (f : Int) (h1 : -2147483648 ≤ f) (h2 : f < 2147483648) : ∃ m : Int, 0 ≤ m ∧ m < 128 ∧ (m = 0 ↔ ¬ figZ f) ∧ ∀ (Q : Option Value → fb_H → Prop) (h : fb_H), ev_c 107 [.int (iI f)] h Q = Q (some (.int (iI m))) h := by
  by_cases q1 : f = 5
  · subst q1; exact ⟨21, by omega, by omega, by unfold figZ; omega, fun _ _ => c107_5⟩
  · by_cases q2 : f = 6
    · subst q2; exact ⟨37, by omega, by omega, by unfold figZ; omega, fun _ _ => c107_6⟩
    · by_cases q3 : f = 64
      · subst q3; exact ⟨41, by omega, by omega, by unfold figZ; omega, fun _ _ => c107_64⟩
      · by_cases q4 : f = 7
        · subst q4; exact ⟨85, by omega, by omega, by unfold figZ; omega, fun _ _ => c107_7⟩
        · exact ⟨0, by omega, by omega, by unfold figZ; omega, fun _ _ => c107_0 h1 h2 ⟨q1, q2, q3, q4⟩⟩
theorem x80 (hX : RepX σ I A) (hs : StI I) (hx1 : -2147483648 ≤ x) (hx2 : x < 2147483648) (hy1 : -2147483648 ≤ y) (hy2 : y < 2147483648) (hz1 : -2147483648 ≤ z) (hz2 : z < 2147483648) : XR L σ I 80 [.ref 0, .int (iI x), .int (iI y), .int (iI z)] (opChord A x y z) := by
  have hl := hX.2.1.2.2.2.1
  have e25 := fun Q => c25 (L := L) (σ := σ) (Q := Q) isp1 hX.1
  obtain ⟨m, m1, m2, m3, m4⟩ := c107g z hz1 hz2
  unfold opChord
  split
  · rename_i h
    refine XR_id hX fun Q => ?_
    simp (disch := first | exact cat_i _ | exact cat_r _ | exact cat_n | omega) only [e80, u80_0, u80_1, u80_4, u80_5, u80_6, u80_9, u80_12, u80_15, u80_16, u80_17, u80_18, u80_21, u80_24, u80_25, u80_28, u80_31, u80_33, u80_34, u80_35, u80_38, u80_41, u80_43, u80_46, u80_48, u80_49, u80_50, u80_53, u80_54, u80_57, u80_60, u80_61, u80_64, u80_65, u80_66, u80_67, u80_68, u80_71, u80_72, u80_75, u80_78, hT_0, hT_1, hT_6, hR_0_0, hR_0_1, e25, ↓reduceIte, false_and, and_false, false_or, or_false, ite_not, decide_true, decide_false, Bool.true_eq_false, Bool.false_eq_true, decide_eq_true_eq, decide_eq_false_iff_not, hp_I, hp_sI, hp_N, ev_k_s, ev_k_n, true_and, and_true, true_or, or_true, not_true_eq_false, not_false_eq_true, if_true, if_false, ite_self, Option.some.injEq, exists_eq_left', nb_0, nb_1, nb_z, zI_t, zI_f, zI_e, cat_i, cat_r, cat_n, iI_add, iI_sub, iI_mul, iI_neg, iI_lt, iI_le, iI_eq, iI_idx, iI_inT, iI_ne0, ite_false, ite_true, iN_0, iN_1, Int.reduceAdd, Int.reduceSub, Int.reduceMul, Int.reduceNeg, Int.reduceDiv, Int.reduceMod, Int.reduceEq, Int.reduceLT, Int.reduceLE, Int.reduceToNat, Nat.reduceAdd, Nat.reduceSub, Nat.reduceMul, Nat.reduceLT, Nat.reduceLeDiff, Nat.reduceEqDiff, Int.cast_ofNat_Int, Std.le_refl, and_self, Int.toNat_natCast, Int.toNat_zero, Nat.le_refl]
    repeat' split
    all_goals first | rfl | (exfalso; omega)
  · rename_i h
    have h' : 0 ≤ x ∧ x ≤ A.1.2.length := Classical.not_not.mp h
    split
    · rename_i g
      refine XR_id hX fun Q => ?_
      by_cases g1 : 36 ≤ y ∧ y ≤ 59
      · have g2 : m = 0 := m3.mpr fun w => g ⟨g1, w⟩
        simp (disch := first | exact cat_i _ | exact cat_r _ | exact cat_n | omega) only [e80, u80_0, u80_1, u80_4, u80_5, u80_6, u80_9, u80_12, u80_15, u80_16, u80_17, u80_18, u80_21, u80_24, u80_25, u80_28, u80_31, u80_33, u80_34, u80_35, u80_38, u80_41, u80_43, u80_46, u80_48, u80_49, u80_50, u80_53, u80_54, u80_57, u80_60, u80_61, u80_64, u80_65, u80_66, u80_67, u80_68, u80_71, u80_72, u80_75, u80_78, hT_0, hT_1, hT_6, hR_0_0, hR_0_1, e25, c103 hs, zI_dt g1, m4, g2, if_pos, if_neg, ↓reduceIte, false_and, and_false, false_or, or_false, ite_not, decide_true, decide_false, Bool.true_eq_false, Bool.false_eq_true, decide_eq_true_eq, decide_eq_false_iff_not, hp_I, hp_sI, hp_N, ev_k_s, ev_k_n, true_and, and_true, true_or, or_true, not_true_eq_false, not_false_eq_true, if_true, if_false, ite_self, Option.some.injEq, exists_eq_left', nb_0, nb_1, nb_z, zI_t, zI_f, zI_e, cat_i, cat_r, cat_n, iI_add, iI_sub, iI_mul, iI_neg, iI_lt, iI_le, iI_eq, iI_idx, iI_inT, iI_ne0, ite_false, ite_true, iN_0, iN_1, Int.reduceAdd, Int.reduceSub, Int.reduceMul, Int.reduceNeg, Int.reduceDiv, Int.reduceMod, Int.reduceEq, Int.reduceLT, Int.reduceLE, Int.reduceToNat, Nat.reduceAdd, Nat.reduceSub, Nat.reduceMul, Nat.reduceLT, Nat.reduceLeDiff, Nat.reduceEqDiff, Int.cast_ofNat_Int, Std.le_refl, and_self, Int.toNat_natCast, Int.toNat_zero, Nat.le_refl]
      · simp (disch := first | exact cat_i _ | exact cat_r _ | exact cat_n | omega) only [e80, u80_0, u80_1, u80_4, u80_5, u80_6, u80_9, u80_12, u80_15, u80_16, u80_17, u80_18, u80_21, u80_24, u80_25, u80_28, u80_31, u80_33, u80_34, u80_35, u80_38, u80_41, u80_43, u80_46, u80_48, u80_49, u80_50, u80_53, u80_54, u80_57, u80_60, u80_61, u80_64, u80_65, u80_66, u80_67, u80_68, u80_71, u80_72, u80_75, u80_78, hT_0, hT_1, hT_6, hR_0_0, hR_0_1, e25, c103 hs, zI_df g1, if_pos, if_neg, ↓reduceIte, false_and, and_false, false_or, or_false, ite_not, decide_true, decide_false, Bool.true_eq_false, Bool.false_eq_true, decide_eq_true_eq, decide_eq_false_iff_not, hp_I, hp_sI, hp_N, ev_k_s, ev_k_n, true_and, and_true, true_or, or_true, not_true_eq_false, not_false_eq_true, if_true, if_false, ite_self, Option.some.injEq, exists_eq_left', nb_0, nb_1, nb_z, zI_t, zI_f, zI_e, cat_i, cat_r, cat_n, iI_add, iI_sub, iI_mul, iI_neg, iI_lt, iI_le, iI_eq, iI_idx, iI_inT, iI_ne0, ite_false, ite_true, iN_0, iN_1, Int.reduceAdd, Int.reduceSub, Int.reduceMul, Int.reduceNeg, Int.reduceDiv, Int.reduceMod, Int.reduceEq, Int.reduceLT, Int.reduceLE, Int.reduceToNat, Nat.reduceAdd, Nat.reduceSub, Nat.reduceMul, Nat.reduceLT, Nat.reduceLeDiff, Nat.reduceEqDiff, Int.cast_ofNat_Int, Std.le_refl, and_self, Int.toNat_natCast, Int.toNat_zero, Nat.le_refl]
    · rename_i g
      obtain ⟨g1, g2⟩ := Classical.not_not.mp g
      have g3 : m ≠ 0 := fun w => m3.mp w g2
      split
      · rename_i k
        refine XR_id hX fun Q => ?_
        simp (disch := first | exact cat_i _ | exact cat_r _ | exact cat_n | omega) only [e80, u80_0, u80_1, u80_4, u80_5, u80_6, u80_9, u80_12, u80_15, u80_16, u80_17, u80_18, u80_21, u80_24, u80_25, u80_28, u80_31, u80_33, u80_34, u80_35, u80_38, u80_41, u80_43, u80_46, u80_48, u80_49, u80_50, u80_53, u80_54, u80_57, u80_60, u80_61, u80_64, u80_65, u80_66, u80_67, u80_68, u80_71, u80_72, u80_75, u80_78, hT_0, hT_1, hT_6, hR_0_0, hR_0_1, e25, c103 hs, zI_dt g1, m4, if_pos, if_neg, ↓reduceIte, false_and, and_false, false_or, or_false, ite_not, decide_true, decide_false, Bool.true_eq_false, Bool.false_eq_true, decide_eq_true_eq, decide_eq_false_iff_not, hp_I, hp_sI, hp_N, ev_k_s, ev_k_n, true_and, and_true, true_or, or_true, not_true_eq_false, not_false_eq_true, if_true, if_false, ite_self, Option.some.injEq, exists_eq_left', nb_0, nb_1, nb_z, zI_t, zI_f, zI_e, cat_i, cat_r, cat_n, iI_add, iI_sub, iI_mul, iI_neg, iI_lt, iI_le, iI_eq, iI_idx, iI_inT, iI_ne0, ite_false, ite_true, iN_0, iN_1, Int.reduceAdd, Int.reduceSub, Int.reduceMul, Int.reduceNeg, Int.reduceDiv, Int.reduceMod, Int.reduceEq, Int.reduceLT, Int.reduceLE, Int.reduceToNat, Nat.reduceAdd, Nat.reduceSub, Nat.reduceMul, Nat.reduceLT, Nat.reduceLeDiff, Nat.reduceEqDiff, Int.cast_ofNat_Int, Std.le_refl, and_self, Int.toNat_natCast, Int.toNat_zero, Nat.le_refl]
      · rename_i k
        obtain ⟨n, rfl⟩ := Int.eq_ofNat_of_zero_le h'.1
        obtain ⟨b, rfl⟩ := Int.eq_ofNat_of_zero_le (show 0 ≤ y by omega)
        obtain ⟨f, rfl⟩ := Int.eq_ofNat_of_zero_le (show 0 ≤ z by unfold figZ at g2; omega)
        rw [Int.toNat_natCast, Int.toNat_natCast, Int.toNat_natCast]
        obtain ⟨τ, J, j1, j2, j3, j4, j5⟩ := chg (L := L) hX hs
        have hVC : VC (b, f, none) := ⟨by show 36 ≤ b; omega, by show b ≤ 59; omega, by show isFig f; unfold isFig; unfold figZ at g2; omega, fun v e => by cases e⟩
        obtain ⟨K, k1, k2, k3⟩ := c41 (L := L) (σ := τ) (t := 1) isp1 j2 hX.2.1 (n := n) (by omega) (by omega) (b, f, none)
        obtain ⟨r1, r2⟩ := j5 K _ k2 (VS_ins hX.2.1 (by omega) (by omega) hVC) k3
        refine ⟨τ, K, fun Q => ?_, r1, r2⟩
        have e25' := fun Q => c25 (L := L) (σ := τ) (Q := Q) isp1 k2
        rw [len_ins (by omega), show ((A.1.2.length + 1 : Nat) : Int) = (A.1.2.length : Int) + 1 by omega] at e25'
        simp only [pkO] at k1
        simp (disch := first | exact cat_i _ | exact cat_r _ | exact cat_n | omega) only [e80, u80_0, u80_1, u80_4, u80_5, u80_6, u80_9, u80_12, u80_15, u80_16, u80_17, u80_18, u80_21, u80_24, u80_25, u80_28, u80_31, u80_33, u80_34, u80_35, u80_38, u80_41, u80_43, u80_46, u80_48, u80_49, u80_50, u80_53, u80_54, u80_57, u80_60, u80_61, u80_64, u80_65, u80_66, u80_67, u80_68, u80_71, u80_72, u80_75, u80_78, hT_0, hT_1, hT_6, hR_0_0, hR_0_1, e25, c103 hs, zI_dt g1, m4, j1, k1, e25', if_pos, if_neg, ↓reduceIte, false_and, and_false, false_or, or_false, ite_not, decide_true, decide_false, Bool.true_eq_false, Bool.false_eq_true, decide_eq_true_eq, decide_eq_false_iff_not, hp_I, hp_sI, hp_N, ev_k_s, ev_k_n, true_and, and_true, true_or, or_true, not_true_eq_false, not_false_eq_true, if_true, if_false, ite_self, Option.some.injEq, exists_eq_left', nb_0, nb_1, nb_z, zI_t, zI_f, zI_e, cat_i, cat_r, cat_n, iI_add, iI_sub, iI_mul, iI_neg, iI_lt, iI_le, iI_eq, iI_idx, iI_inT, iI_ne0, ite_false, ite_true, iN_0, iN_1, Int.reduceAdd, Int.reduceSub, Int.reduceMul, Int.reduceNeg, Int.reduceDiv, Int.reduceMod, Int.reduceEq, Int.reduceLT, Int.reduceLE, Int.reduceToNat, Nat.reduceAdd, Nat.reduceSub, Nat.reduceMul, Nat.reduceLT, Nat.reduceLeDiff, Nat.reduceEqDiff, Int.cast_ofNat_Int, Std.le_refl, and_self, Int.toNat_natCast, Int.toNat_zero, Nat.le_refl]
theorem x93e (hX : RepX σ I A) (hs : StI I) (hx1 : -2147483648 ≤ x) (hx2 : x < 2147483648) (hp1 : -2147483648 ≤ p) (hp2 : p < 2147483648) (hq1 : -2147483648 ≤ q) (hq2 : q < 2147483648) (hr1 : -2147483648 ≤ r) (hr2 : r < 2147483648) : ev_c 93 [.ref 0, .int (iI x), .int (iI p), .int (iI q), .int (iI r)] (hp L σ I) Q = Q (some (.int (iI (opIfv A x p q r)))) (hp L σ I) := by
  unfold opIfv
  split
  · rename_i h
    simp (disch := first | exact cat_i _ | exact cat_r _ | exact cat_n | omega) only [e93, u93_0, u93_1, u93_4, u93_5, u93_8, u93_11, u93_12, u93_13, u93_14, u93_17, u93_20, u93_21, u93_24, u93_27, u93_29, u93_32, u93_35, u93_37, u93_38, u93_39, u93_42, u93_43, u93_44, u93_45, u93_47, u93_50, u93_53, hT_0, hT_1, hR_0_0, c26X hX, zI_df h, if_pos, if_neg, ↓reduceIte, false_and, and_false, false_or, or_false, ite_not, decide_true, decide_false, Bool.true_eq_false, Bool.false_eq_true, decide_eq_true_eq, decide_eq_false_iff_not, hp_I, hp_sI, hp_N, ev_k_s, ev_k_n, true_and, and_true, true_or, or_true, not_true_eq_false, not_false_eq_true, if_true, if_false, ite_self, Option.some.injEq, exists_eq_left', nb_0, nb_1, nb_z, zI_t, zI_f, zI_e, cat_i, cat_r, cat_n, iI_add, iI_sub, iI_mul, iI_neg, iI_lt, iI_le, iI_eq, iI_idx, iI_inT, iI_ne0, ite_false, ite_true, iN_0, iN_1, Int.reduceAdd, Int.reduceSub, Int.reduceMul, Int.reduceNeg, Int.reduceDiv, Int.reduceMod, Int.reduceEq, Int.reduceLT, Int.reduceLE, Int.reduceToNat, Nat.reduceAdd, Nat.reduceSub, Nat.reduceMul, Nat.reduceLT, Nat.reduceLeDiff, Nat.reduceEqDiff, Int.cast_ofNat_Int, Std.le_refl, and_self, Int.toNat_natCast, Int.toNat_zero, Nat.le_refl]
  · rename_i h
    have h' : 0 ≤ x ∧ x < A.1.2.length := Classical.not_not.mp h
    split
    · rename_i g
      by_cases g1 : 0 ≤ p ∧ p ≤ 99
      · by_cases g2 : 0 ≤ q ∧ q ≤ 99
        · have g3 : ¬ (0 ≤ r ∧ r ≤ 99) := fun w => g ⟨g1, g2, w⟩
          simp (disch := first | exact cat_i _ | exact cat_r _ | exact cat_n | omega) only [e93, u93_0, u93_1, u93_4, u93_5, u93_8, u93_11, u93_12, u93_13, u93_14, u93_17, u93_20, u93_21, u93_24, u93_27, u93_29, u93_32, u93_35, u93_37, u93_38, u93_39, u93_42, u93_43, u93_44, u93_45, u93_47, u93_50, u93_53, hT_0, hT_1, hR_0_0, c26X hX, zI_dt h', c104, zI_dt g1, zI_dt g2, zI_df g3, if_pos, if_neg, ↓reduceIte, false_and, and_false, false_or, or_false, ite_not, decide_true, decide_false, Bool.true_eq_false, Bool.false_eq_true, decide_eq_true_eq, decide_eq_false_iff_not, hp_I, hp_sI, hp_N, ev_k_s, ev_k_n, true_and, and_true, true_or, or_true, not_true_eq_false, not_false_eq_true, if_true, if_false, ite_self, Option.some.injEq, exists_eq_left', nb_0, nb_1, nb_z, zI_t, zI_f, zI_e, cat_i, cat_r, cat_n, iI_add, iI_sub, iI_mul, iI_neg, iI_lt, iI_le, iI_eq, iI_idx, iI_inT, iI_ne0, ite_false, ite_true, iN_0, iN_1, Int.reduceAdd, Int.reduceSub, Int.reduceMul, Int.reduceNeg, Int.reduceDiv, Int.reduceMod, Int.reduceEq, Int.reduceLT, Int.reduceLE, Int.reduceToNat, Nat.reduceAdd, Nat.reduceSub, Nat.reduceMul, Nat.reduceLT, Nat.reduceLeDiff, Nat.reduceEqDiff, Int.cast_ofNat_Int, Std.le_refl, and_self, Int.toNat_natCast, Int.toNat_zero, Nat.le_refl]
        · simp (disch := first | exact cat_i _ | exact cat_r _ | exact cat_n | omega) only [e93, u93_0, u93_1, u93_4, u93_5, u93_8, u93_11, u93_12, u93_13, u93_14, u93_17, u93_20, u93_21, u93_24, u93_27, u93_29, u93_32, u93_35, u93_37, u93_38, u93_39, u93_42, u93_43, u93_44, u93_45, u93_47, u93_50, u93_53, hT_0, hT_1, hR_0_0, c26X hX, zI_dt h', c104, zI_dt g1, zI_df g2, if_pos, if_neg, ↓reduceIte, false_and, and_false, false_or, or_false, ite_not, decide_true, decide_false, Bool.true_eq_false, Bool.false_eq_true, decide_eq_true_eq, decide_eq_false_iff_not, hp_I, hp_sI, hp_N, ev_k_s, ev_k_n, true_and, and_true, true_or, or_true, not_true_eq_false, not_false_eq_true, if_true, if_false, ite_self, Option.some.injEq, exists_eq_left', nb_0, nb_1, nb_z, zI_t, zI_f, zI_e, cat_i, cat_r, cat_n, iI_add, iI_sub, iI_mul, iI_neg, iI_lt, iI_le, iI_eq, iI_idx, iI_inT, iI_ne0, ite_false, ite_true, iN_0, iN_1, Int.reduceAdd, Int.reduceSub, Int.reduceMul, Int.reduceNeg, Int.reduceDiv, Int.reduceMod, Int.reduceEq, Int.reduceLT, Int.reduceLE, Int.reduceToNat, Nat.reduceAdd, Nat.reduceSub, Nat.reduceMul, Nat.reduceLT, Nat.reduceLeDiff, Nat.reduceEqDiff, Int.cast_ofNat_Int, Std.le_refl, and_self, Int.toNat_natCast, Int.toNat_zero, Nat.le_refl]
      · simp (disch := first | exact cat_i _ | exact cat_r _ | exact cat_n | omega) only [e93, u93_0, u93_1, u93_4, u93_5, u93_8, u93_11, u93_12, u93_13, u93_14, u93_17, u93_20, u93_21, u93_24, u93_27, u93_29, u93_32, u93_35, u93_37, u93_38, u93_39, u93_42, u93_43, u93_44, u93_45, u93_47, u93_50, u93_53, hT_0, hT_1, hR_0_0, c26X hX, zI_dt h', c104, zI_df g1, if_pos, if_neg, ↓reduceIte, false_and, and_false, false_or, or_false, ite_not, decide_true, decide_false, Bool.true_eq_false, Bool.false_eq_true, decide_eq_true_eq, decide_eq_false_iff_not, hp_I, hp_sI, hp_N, ev_k_s, ev_k_n, true_and, and_true, true_or, or_true, not_true_eq_false, not_false_eq_true, if_true, if_false, ite_self, Option.some.injEq, exists_eq_left', nb_0, nb_1, nb_z, zI_t, zI_f, zI_e, cat_i, cat_r, cat_n, iI_add, iI_sub, iI_mul, iI_neg, iI_lt, iI_le, iI_eq, iI_idx, iI_inT, iI_ne0, ite_false, ite_true, iN_0, iN_1, Int.reduceAdd, Int.reduceSub, Int.reduceMul, Int.reduceNeg, Int.reduceDiv, Int.reduceMod, Int.reduceEq, Int.reduceLT, Int.reduceLE, Int.reduceToNat, Nat.reduceAdd, Nat.reduceSub, Nat.reduceMul, Nat.reduceLT, Nat.reduceLeDiff, Nat.reduceEqDiff, Int.cast_ofNat_Int, Std.le_refl, and_self, Int.toNat_natCast, Int.toNat_zero, Nat.le_refl]
    · rename_i g
      obtain ⟨g1, g2, g3⟩ := Classical.not_not.mp g
      obtain ⟨n, rfl⟩ := Int.eq_ofNat_of_zero_le h'.1
      obtain ⟨a, rfl⟩ := Int.eq_ofNat_of_zero_le g1.1
      obtain ⟨b, rfl⟩ := Int.eq_ofNat_of_zero_le g2.1
      obtain ⟨c, rfl⟩ := Int.eq_ofNat_of_zero_le g3.1
      simp only [Int.toNat_natCast]
      have hvv : VV (a, b, c) := ⟨by show a ≤ 99; omega, by show b ≤ 99; omega, by show c ≤ 99; omega⟩
      have e109 := fun Q h => c109 (Q := Q) (h := h) hvv
      dsimp only at e109
      have e55 := fun Q => c55 (L := L) (σ := σ) (Q := Q) (n := n) isp1 hX.1 hX.2.1 hs (by omega) hvv
      simp (disch := first | exact cat_i _ | exact cat_r _ | exact cat_n | omega) only [e93, u93_0, u93_1, u93_4, u93_5, u93_8, u93_11, u93_12, u93_13, u93_14, u93_17, u93_20, u93_21, u93_24, u93_27, u93_29, u93_32, u93_35, u93_37, u93_38, u93_39, u93_42, u93_43, u93_44, u93_45, u93_47, u93_50, u93_53, hT_0, hT_1, hR_0_0, c26X hX, zI_dt h', c104, zI_dt g1, zI_dt g2, zI_dt g3, e109, e55, if_pos, if_neg, ↓reduceIte, false_and, and_false, false_or, or_false, ite_not, decide_true, decide_false, Bool.true_eq_false, Bool.false_eq_true, decide_eq_true_eq, decide_eq_false_iff_not, hp_I, hp_sI, hp_N, ev_k_s, ev_k_n, true_and, and_true, true_or, or_true, not_true_eq_false, not_false_eq_true, if_true, if_false, ite_self, Option.some.injEq, exists_eq_left', nb_0, nb_1, nb_z, zI_t, zI_f, zI_e, cat_i, cat_r, cat_n, iI_add, iI_sub, iI_mul, iI_neg, iI_lt, iI_le, iI_eq, iI_idx, iI_inT, iI_ne0, ite_false, ite_true, iN_0, iN_1, Int.reduceAdd, Int.reduceSub, Int.reduceMul, Int.reduceNeg, Int.reduceDiv, Int.reduceMod, Int.reduceEq, Int.reduceLT, Int.reduceLE, Int.reduceToNat, Nat.reduceAdd, Nat.reduceSub, Nat.reduceMul, Nat.reduceLT, Nat.reduceLeDiff, Nat.reduceEqDiff, Int.cast_ofNat_Int, Std.le_refl, and_self, Int.toNat_natCast, Int.toNat_zero, Nat.le_refl]
theorem x93 (hX : RepX σ I A) (hs : StI I) (hx1 : -2147483648 ≤ x) (hx2 : x < 2147483648) (hp1 : -2147483648 ≤ p) (hp2 : p < 2147483648) (hq1 : -2147483648 ≤ q) (hq2 : q < 2147483648) (hr1 : -2147483648 ≤ r) (hr2 : r < 2147483648) : XR L σ I 93 [.ref 0, .int (iI x), .int (iI p), .int (iI q), .int (iI r)] (opIfv A x p q r, A) := XR_id hX fun _ => x93e hX hs hx1 hx2 hp1 hp2 hq1 hq2 hr1 hr2
theorem x82 (hX : RepX σ I A) (hs : StI I) (hx1 : -2147483648 ≤ x) (hx2 : x < 2147483648) (hp1 : -2147483648 ≤ p) (hp2 : p < 2147483648) (hq1 : -2147483648 ≤ q) (hq2 : q < 2147483648) (hr1 : -2147483648 ≤ r) (hr2 : r < 2147483648) : XR L σ I 82 [.ref 0, .int (iI x), .int (iI p), .int (iI q), .int (iI r)] (opVoice A x p q r) := by
  have e93 := fun Q => x93e (L := L) (Q := Q) hX hs hx1 hx2 hp1 hp2 hq1 hq2 hr1 hr2
  have hl := hX.2.1.2.2.2.1
  unfold opVoice
  split
  · rename_i h
    obtain ⟨h1, g1, g2, g3⟩ := h
    have eI : opIfv A x p q r = (flw A.1 x.toNat (p.toNat, q.toNat, r.toNat) : Int) := by
      unfold opIfv
      rw [if_neg (fun w => w h1), if_neg (fun w => w ⟨g1, g2, g3⟩)]
    rw [eI] at e93
    obtain ⟨n, rfl⟩ := Int.eq_ofNat_of_zero_le h1.1
    obtain ⟨a, rfl⟩ := Int.eq_ofNat_of_zero_le g1.1
    obtain ⟨b, rfl⟩ := Int.eq_ofNat_of_zero_le g2.1
    obtain ⟨c, rfl⟩ := Int.eq_ofNat_of_zero_le g3.1
    simp only [Int.toNat_natCast] at e93 ⊢
    have hvv : VV (a, b, c) := ⟨by show a ≤ 99; omega, by show b ≤ 99; omega, by show c ≤ 99; omega⟩
    have e109 := fun Q h => c109 (Q := Q) (h := h) hvv
    dsimp only at e109
    obtain ⟨τ, J, j1, j2, j3, j4, j5⟩ := chg (L := L) hX hs
    obtain ⟨K, k1, k2, k3⟩ := c44 (L := L) (σ := τ) (t := 1) isp1 j2 hX.2.1 (n := n) (by omega) (some (a, b, c))
    obtain ⟨r1, r2⟩ := j5 K _ k2 (VS_gv hX.2.1 (by omega) (fun v e => by cases e; exact hvv)) k3
    have hf := flw_lt A.1 n (a, b, c)
    refine ⟨τ, K, fun Q => ?_, r1, r2⟩
    simp only [pkO] at k1
    simp (disch := first | exact cat_i _ | exact cat_r _ | exact cat_n | omega) only [e82, u82_0, u82_1, u82_2, u82_3, u82_4, u82_6, u82_9, u82_11, u82_13, u82_16, u82_18, u82_19, u82_20, u82_23, u82_24, u82_27, u82_30, u82_31, u82_34, u82_35, u82_36, u82_37, u82_39, u82_42, u82_45, u82_47, hT_0, hT_1, hT_6, hR_0_0, hR_0_1, e93, e109, j1, k1, if_pos, if_neg, ↓reduceIte, false_and, and_false, false_or, or_false, ite_not, decide_true, decide_false, Bool.true_eq_false, Bool.false_eq_true, decide_eq_true_eq, decide_eq_false_iff_not, hp_I, hp_sI, hp_N, ev_k_s, ev_k_n, true_and, and_true, true_or, or_true, not_true_eq_false, not_false_eq_true, if_true, if_false, ite_self, Option.some.injEq, exists_eq_left', nb_0, nb_1, nb_z, zI_t, zI_f, zI_e, cat_i, cat_r, cat_n, iI_add, iI_sub, iI_mul, iI_neg, iI_lt, iI_le, iI_eq, iI_idx, iI_inT, iI_ne0, ite_false, ite_true, iN_0, iN_1, Int.reduceAdd, Int.reduceSub, Int.reduceMul, Int.reduceNeg, Int.reduceDiv, Int.reduceMod, Int.reduceEq, Int.reduceLT, Int.reduceLE, Int.reduceToNat, Nat.reduceAdd, Nat.reduceSub, Nat.reduceMul, Nat.reduceLT, Nat.reduceLeDiff, Nat.reduceEqDiff, Int.cast_ofNat_Int, Std.le_refl, and_self, Int.toNat_natCast, Int.toNat_zero, Nat.le_refl]
  · rename_i h
    refine XR_id hX fun Q => ?_
    have hneg : opIfv A x p q r = -1 ∨ opIfv A x p q r = -2 := by
      unfold opIfv
      split
      · exact Or.inl rfl
      · split
        · exact Or.inr rfl
        · rename_i h1 h2
          exact absurd ⟨Classical.not_not.mp h1, (Classical.not_not.mp h2)⟩ h
    generalize opIfv A x p q r = o at *
    simp (disch := first | exact cat_i _ | exact cat_r _ | exact cat_n | omega) only [e82, u82_0, u82_1, u82_2, u82_3, u82_4, u82_6, u82_9, u82_11, u82_13, u82_16, u82_18, u82_19, u82_20, u82_23, u82_24, u82_27, u82_30, u82_31, u82_34, u82_35, u82_36, u82_37, u82_39, u82_42, u82_45, u82_47, hT_0, hT_1, hT_6, hR_0_0, hR_0_1, e93, if_pos, if_neg, ↓reduceIte, false_and, and_false, false_or, or_false, ite_not, decide_true, decide_false, Bool.true_eq_false, Bool.false_eq_true, decide_eq_true_eq, decide_eq_false_iff_not, hp_I, hp_sI, hp_N, ev_k_s, ev_k_n, true_and, and_true, true_or, or_true, not_true_eq_false, not_false_eq_true, if_true, if_false, ite_self, Option.some.injEq, exists_eq_left', nb_0, nb_1, nb_z, zI_t, zI_f, zI_e, cat_i, cat_r, cat_n, iI_add, iI_sub, iI_mul, iI_neg, iI_lt, iI_le, iI_eq, iI_idx, iI_inT, iI_ne0, ite_false, ite_true, iN_0, iN_1, Int.reduceAdd, Int.reduceSub, Int.reduceMul, Int.reduceNeg, Int.reduceDiv, Int.reduceMod, Int.reduceEq, Int.reduceLT, Int.reduceLE, Int.reduceToNat, Nat.reduceAdd, Nat.reduceSub, Nat.reduceMul, Nat.reduceLT, Nat.reduceLeDiff, Nat.reduceEqDiff, Int.cast_ofNat_Int, Std.le_refl, and_self, Int.toNat_natCast, Int.toNat_zero, Nat.le_refl]
theorem x84 (hX : RepX σ I A) (hs : StI I) (hx1 : -2147483648 ≤ x) (hx2 : x < 2147483648) : XR L σ I 84 [.ref 0, .int (iI x)] (opTr A x) := by
  unfold opTr
  split
  · rename_i h
    refine XR_id hX fun Q => ?_
    simp (disch := first | exact cat_i _ | exact cat_r _ | exact cat_n | omega) only [u84_0, u84_1, u84_3, u84_6, u84_7, u84_9, u84_12, u84_14, e84, hT_0, ↓reduceIte, false_and, and_false, false_or, or_false, ite_not, decide_true, decide_false, Bool.true_eq_false, Bool.false_eq_true, decide_eq_true_eq, decide_eq_false_iff_not, hp_I, hp_sI, hp_N, ev_k_s, ev_k_n, true_and, and_true, true_or, or_true, not_true_eq_false, not_false_eq_true, if_true, if_false, ite_self, Option.some.injEq, exists_eq_left', nb_0, nb_1, nb_z, zI_t, zI_f, zI_e, cat_i, cat_r, cat_n, iI_add, iI_sub, iI_mul, iI_neg, iI_lt, iI_le, iI_eq, iI_idx, iI_inT, iI_ne0, ite_false, ite_true, iN_0, iN_1, Int.reduceAdd, Int.reduceSub, Int.reduceMul, Int.reduceNeg, Int.reduceDiv, Int.reduceMod, Int.reduceEq, Int.reduceLT, Int.reduceLE, Int.reduceToNat, Nat.reduceAdd, Nat.reduceSub, Nat.reduceMul, Nat.reduceLT, Nat.reduceLeDiff, Nat.reduceEqDiff, Int.cast_ofNat_Int, Std.le_refl, and_self, Int.toNat_natCast, Int.toNat_zero, Nat.le_refl]
    repeat' split
    all_goals first | rfl | (exfalso; omega)
  · rename_i h
    have h' : -12 ≤ x ∧ x ≤ 12 := Classical.not_not.mp h
    have e45 := fun Q => c45 (L := L) (σ := σ) (Q := Q) isp1 hX.1 hX.2.1 hs h'.1 h'.2
    split
    · rename_i g
      obtain ⟨τ, J, j1, j2, j3, j4, j5⟩ := chg (L := L) hX hs
      obtain ⟨K, k1, k2, k3⟩ := c46 (L := L) (σ := τ) (t := 1) isp1 j2 hX.2.1 h'.1 h'.2 g
      obtain ⟨r1, r2⟩ := j5 K _ k2 (VS_mov hX.2.1 g) k3
      refine ⟨τ, K, fun Q => ?_, r1, r2⟩
      have e27 := fun Q => c27_0 (L := L) (σ := τ) (Q := Q) isp1 k2
      simp (disch := first | exact cat_i _ | exact cat_r _ | exact cat_n | omega) only [e84, u84_0, u84_1, u84_3, u84_6, u84_7, u84_9, u84_12, u84_14, u84_15, u84_16, u84_19, u84_20, u84_23, u84_26, u84_28, u84_29, u84_30, u84_33, u84_34, u84_37, u84_40, u84_41, u84_44, u84_45, u84_48, u84_49, u84_52, u84_53, u84_56, hT_0, hT_1, hT_6, hR_0_0, hR_0_1, e45, g, j1, k1, e27, if_pos, if_neg, ↓reduceIte, false_and, and_false, false_or, or_false, ite_not, decide_true, decide_false, Bool.true_eq_false, Bool.false_eq_true, decide_eq_true_eq, decide_eq_false_iff_not, hp_I, hp_sI, hp_N, ev_k_s, ev_k_n, true_and, and_true, true_or, or_true, not_true_eq_false, not_false_eq_true, if_true, if_false, ite_self, Option.some.injEq, exists_eq_left', nb_0, nb_1, nb_z, zI_t, zI_f, zI_e, cat_i, cat_r, cat_n, iI_add, iI_sub, iI_mul, iI_neg, iI_lt, iI_le, iI_eq, iI_idx, iI_inT, iI_ne0, ite_false, ite_true, iN_0, iN_1, Int.reduceAdd, Int.reduceSub, Int.reduceMul, Int.reduceNeg, Int.reduceDiv, Int.reduceMod, Int.reduceEq, Int.reduceLT, Int.reduceLE, Int.reduceToNat, Nat.reduceAdd, Nat.reduceSub, Nat.reduceMul, Nat.reduceLT, Nat.reduceLeDiff, Nat.reduceEqDiff, Int.cast_ofNat_Int, Std.le_refl, and_self, Int.toNat_natCast, Int.toNat_zero, Nat.le_refl]
    · rename_i g
      rw [Bool.not_eq_true] at g
      refine XR_id hX fun Q => ?_
      simp (disch := first | exact cat_i _ | exact cat_r _ | exact cat_n | omega) only [e84, u84_0, u84_1, u84_3, u84_6, u84_7, u84_9, u84_12, u84_14, u84_15, u84_16, u84_19, u84_20, u84_23, u84_26, u84_28, u84_29, u84_30, u84_33, u84_34, u84_37, u84_40, u84_41, u84_44, u84_45, u84_48, u84_49, u84_52, u84_53, u84_56, hT_0, hT_1, hT_6, hR_0_0, hR_0_1, e45, g, if_pos, if_neg, ↓reduceIte, false_and, and_false, false_or, or_false, ite_not, decide_true, decide_false, Bool.true_eq_false, Bool.false_eq_true, decide_eq_true_eq, decide_eq_false_iff_not, hp_I, hp_sI, hp_N, ev_k_s, ev_k_n, true_and, and_true, true_or, or_true, not_true_eq_false, not_false_eq_true, if_true, if_false, ite_self, Option.some.injEq, exists_eq_left', nb_0, nb_1, nb_z, zI_t, zI_f, zI_e, cat_i, cat_r, cat_n, iI_add, iI_sub, iI_mul, iI_neg, iI_lt, iI_le, iI_eq, iI_idx, iI_inT, iI_ne0, ite_false, ite_true, iN_0, iN_1, Int.reduceAdd, Int.reduceSub, Int.reduceMul, Int.reduceNeg, Int.reduceDiv, Int.reduceMod, Int.reduceEq, Int.reduceLT, Int.reduceLE, Int.reduceToNat, Nat.reduceAdd, Nat.reduceSub, Nat.reduceMul, Nat.reduceLT, Nat.reduceLeDiff, Nat.reduceEqDiff, Int.cast_ofNat_Int, Std.le_refl, and_self, Int.toNat_natCast, Int.toNat_zero, Nat.le_refl]
end OQ
