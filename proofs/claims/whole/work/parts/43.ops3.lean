def opUndo (A : AS) : Int × AS := if A.2.1.length = 0 then (-5, A) else ((A.2.1.length : Int) - 1, (A.2.1.getD (A.2.1.length - 1) ((0, 0, 0), []), A.2.1.dropLast, A.2.2))
def opSave (A : AS) (x : Int) : Int × AS := if ¬ (0 ≤ x ∧ x < 2) then (-2, A) else ((A.1.2.length : Int), (A.1, A.2.1, (if x = 0 then some A.1 else A.2.2.1.1, if x = 0 then A.2.2.1.2 else some A.1), A.2.2.2))
def opRest (A : AS) (x : Int) : Int × AS := if ¬ (0 ≤ x ∧ x < 2) then (-2, A) else match (if x = 0 then A.2.2.1.1 else A.2.2.1.2) with
  | none => (-5, A)
  | some S => ((S.2.length : Int), (S, pus A.2.1 A.1, A.2.2))
def opWipe (A : AS) : Int × AS := ((A.2.2.2.length : Int), (A.1, A.2.1, A.2.2.1, []))
theorem vb_1 : vp_nar .boolean (iI 1) = iI 1 := by decide +kernel
section OU
variable {L : Nat} {σ : Nat → Nat} {I : Nat → Nat → Int32} {A : AS} {x y z w p q r : Int} {Q : Option Value → fb_H → Prop}
theorem x98 (hX : RepX σ I A) (hs : StI I) : XR L σ I 98 [.ref 0] (opUndo A) := by
  obtain ⟨h1, h2, h3, h4, h5, h6⟩ := id hX
  have h46 := h4.2.1
  have e1 := fun Q => c1 (L := L) (Q := Q) h4
  unfold opUndo
  by_cases h : A.2.1.length = 0
  · rw [if_pos h]
    rw [h] at e1
    refine XR_id hX fun Q => ?_
    simp (disch := first | exact cat_i _ | exact cat_r _ | exact cat_n | omega) only [e98, u98_0, u98_1, u98_4, u98_7, u98_10, u98_12, u98_13, u98_14, u98_17, u98_18, u98_21, u98_24, u98_25, u98_28, u98_31, hT_0, hT_6, hR_0_1, e1, if_pos, if_neg, ↓reduceIte, false_and, and_false, false_or, or_false, ite_not, decide_true, decide_false, Bool.true_eq_false, Bool.false_eq_true, decide_eq_true_eq, decide_eq_false_iff_not, hp_I, hp_sI, hp_N, ev_k_s, ev_k_n, true_and, and_true, true_or, or_true, not_true_eq_false, not_false_eq_true, if_true, if_false, ite_self, Option.some.injEq, exists_eq_left', nb_0, nb_1, nb_z, zI_t, zI_f, zI_e, cat_i, cat_r, cat_n, iI_add, iI_sub, iI_mul, iI_neg, iI_lt, iI_le, iI_eq, iI_idx, iI_inT, iI_ne0, ite_false, ite_true, iN_0, iN_1, Int.reduceAdd, Int.reduceSub, Int.reduceMul, Int.reduceNeg, Int.reduceDiv, Int.reduceMod, Int.reduceEq, Int.reduceLT, Int.reduceLE, Int.reduceToNat, Nat.reduceAdd, Nat.reduceSub, Nat.reduceMul, Nat.reduceLT, Nat.reduceLeDiff, Nat.reduceEqDiff, Int.cast_ofNat_Int, Std.le_refl, and_self, Int.toNat_natCast, Int.toNat_zero, Nat.le_refl]
  · rw [if_neg h]
    have hsp : A.2.1 = A.2.1.dropLast ++ [A.2.1.getD (A.2.1.length - 1) ((0, 0, 0), [])] := by
      have hne : A.2.1 ≠ [] := fun e => h (by rw [e]; rfl)
      have := List.dropLast_concat_getLast hne
      rw [List.getD_eq_getElem?_getD, List.getElem?_eq_getElem (by omega), Option.getD_some, ← List.getLast_eq_getElem hne]
      exact this.symm
    have h4' := h4
    rw [hsp] at h4'
    obtain ⟨J, j1, j2, j3, j4, j5⟩ := c4 (L := L) h3 h4'
    have hlen : A.2.1.dropLast.length = A.2.1.length - 1 := List.length_dropLast
    have e1' := fun Q => c1 (L := L) (Q := Q) j2
    rw [hlen, show ((A.2.1.length - 1 : Nat) : Int) = (A.2.1.length : Int) - 1 by omega] at e1'
    refine ⟨σ, J, fun Q => ?_, ⟨j3, j4, h3, j2, RepSl_o h5 fun i q a b => j5 i q (by omega), RepT_o h6 fun i q a b => j5 i q (by omega)⟩, fun i q a => j5 i q (by omega)⟩
    simp (disch := first | exact cat_i _ | exact cat_r _ | exact cat_n | omega) only [e98, u98_0, u98_1, u98_4, u98_7, u98_10, u98_12, u98_13, u98_14, u98_17, u98_18, u98_21, u98_24, u98_25, u98_28, u98_31, hT_0, hT_1, hT_6, hR_0_0, hR_0_1, e1, j1, e1', if_pos, if_neg, ↓reduceIte, false_and, and_false, false_or, or_false, ite_not, decide_true, decide_false, Bool.true_eq_false, Bool.false_eq_true, decide_eq_true_eq, decide_eq_false_iff_not, hp_I, hp_sI, hp_N, ev_k_s, ev_k_n, true_and, and_true, true_or, or_true, not_true_eq_false, not_false_eq_true, if_true, if_false, ite_self, Option.some.injEq, exists_eq_left', nb_0, nb_1, nb_z, zI_t, zI_f, zI_e, cat_i, cat_r, cat_n, iI_add, iI_sub, iI_mul, iI_neg, iI_lt, iI_le, iI_eq, iI_idx, iI_inT, iI_ne0, ite_false, ite_true, iN_0, iN_1, Int.reduceAdd, Int.reduceSub, Int.reduceMul, Int.reduceNeg, Int.reduceDiv, Int.reduceMod, Int.reduceEq, Int.reduceLT, Int.reduceLE, Int.reduceToNat, Nat.reduceAdd, Nat.reduceSub, Nat.reduceMul, Nat.reduceLT, Nat.reduceLeDiff, Nat.reduceEqDiff, Int.cast_ofNat_Int, Std.le_refl, and_self, Int.toNat_natCast, Int.toNat_zero, Nat.le_refl]
theorem x99 (hX : RepX σ I A) (hs : StI I) (hx1 : -2147483648 ≤ x) (hx2 : x < 2147483648) : XR L σ I 99 [.ref 0, .int (iI x)] (opSave A x) := by
  obtain ⟨h1, h2, h3, h4, h5, h6⟩ := id hX
  obtain ⟨s1, s2, s3, s4⟩ := id h5
  unfold opSave
  by_cases h : 0 ≤ x ∧ x < 2
  · rw [if_neg (fun k => k h)]
    rcases (show x = 0 ∨ x = 1 by omega) with rfl | rfl
    · obtain ⟨J, j1, j2, j3⟩ := c47 (L := L) (σ := σ) (t := 39) (by unfold isp; omega) isp1 (by omega) h1 h2
      have hr1 : RepP (fb_u2 J 49 0 (iI 1)) 1 A.1 := RepP_o h1 fun i q a b => (u2_ne (by omega)).trans (j3 i q (by omega))
      have e25 := fun Q => c25 (L := L) (σ := σ) (Q := Q) isp1 hr1
      have ho : ∀ i q, (i < 39 ∨ 44 ≤ i) → ¬ (i = 49 ∧ q = 0) → fb_u2 J 49 0 (iI 1) i q = I i q := fun i q a b => (u2_ne (by omega)).trans (j3 i q (by omega))
      refine ⟨σ, fb_u2 J 49 0 (iI 1), fun Q => ?_, ⟨hr1, h2, h3, RepH_o h4 h3 fun i q a b => ho i q (by omega) (by omega), ⟨u2_eq, (ho _ _ (by omega) (by omega)).trans s2, fun S e => ?_, fun S e => ⟨RepP_o (s4 S e).1 fun i q a b => ho i q (by omega) (by omega), (s4 S e).2⟩⟩, RepT_o h6 fun i q a b => ho i q (by omega) (by omega)⟩, fun i q a => ho i q (by omega) (by omega)⟩
      · simp (disch := first | exact cat_i _ | exact cat_r _ | exact cat_n | omega) only [e99, u99_0, u99_1, u99_4, u99_7, u99_9, u99_10, u99_11, u99_14, u99_15, u99_16, u99_17, u99_20, u99_23, u99_24, u99_27, u99_28, u99_29, u99_30, u99_31, u99_34, u99_37, hT_0, hT_1, hT_38, hT_39, hT_49, hR_0_0, hR_0_2, hR_0_3, hR_38_0, c102, zI_dt h, j1, vb_1, e25, if_pos, if_neg, ↓reduceIte, false_and, and_false, false_or, or_false, ite_not, decide_true, decide_false, Bool.true_eq_false, Bool.false_eq_true, decide_eq_true_eq, decide_eq_false_iff_not, hp_I, hp_sI, hp_N, ev_k_s, ev_k_n, true_and, and_true, true_or, or_true, not_true_eq_false, not_false_eq_true, if_true, if_false, ite_self, Option.some.injEq, exists_eq_left', nb_0, nb_1, nb_z, zI_t, zI_f, zI_e, cat_i, cat_r, cat_n, iI_add, iI_sub, iI_mul, iI_neg, iI_lt, iI_le, iI_eq, iI_idx, iI_inT, iI_ne0, ite_false, ite_true, iN_0, iN_1, Int.reduceAdd, Int.reduceSub, Int.reduceMul, Int.reduceNeg, Int.reduceDiv, Int.reduceMod, Int.reduceEq, Int.reduceLT, Int.reduceLE, Int.reduceToNat, Nat.reduceAdd, Nat.reduceSub, Nat.reduceMul, Nat.reduceLT, Nat.reduceLeDiff, Nat.reduceEqDiff, Int.cast_ofNat_Int, Std.le_refl, and_self, Int.toNat_natCast, Int.toNat_zero, Nat.le_refl]
      · cases e; exact ⟨RepP_o j2 fun i q a b => u2_ne (by omega), h2⟩
    · obtain ⟨J, j1, j2, j3⟩ := c47 (L := L) (σ := σ) (t := 44) (by unfold isp; omega) isp1 (by omega) h1 h2
      have hr1 : RepP (fb_u2 J 49 1 (iI 1)) 1 A.1 := RepP_o h1 fun i q a b => (u2_ne (by omega)).trans (j3 i q (by omega))
      have e25 := fun Q => c25 (L := L) (σ := σ) (Q := Q) isp1 hr1
      have ho : ∀ i q, (i < 44 ∨ 49 ≤ i) → ¬ (i = 49 ∧ q = 1) → fb_u2 J 49 1 (iI 1) i q = I i q := fun i q a b => (u2_ne (by omega)).trans (j3 i q (by omega))
      refine ⟨σ, fb_u2 J 49 1 (iI 1), fun Q => ?_, ⟨hr1, h2, h3, RepH_o h4 h3 fun i q a b => ho i q (by omega) (by omega), ⟨(ho _ _ (by omega) (by omega)).trans s1, u2_eq, fun S e => ⟨RepP_o (s3 S e).1 fun i q a b => ho i q (by omega) (by omega), (s3 S e).2⟩, fun S e => ?_⟩, RepT_o h6 fun i q a b => ho i q (by omega) (by omega)⟩, fun i q a => ho i q (by omega) (by omega)⟩
      · simp (disch := first | exact cat_i _ | exact cat_r _ | exact cat_n | omega) only [e99, u99_0, u99_1, u99_4, u99_7, u99_9, u99_10, u99_11, u99_14, u99_15, u99_16, u99_17, u99_20, u99_23, u99_24, u99_27, u99_28, u99_29, u99_30, u99_31, u99_34, u99_37, hT_0, hT_1, hT_38, hT_44, hT_49, hR_0_0, hR_0_2, hR_0_3, hR_38_1, c102, zI_dt h, j1, vb_1, e25, if_pos, if_neg, ↓reduceIte, false_and, and_false, false_or, or_false, ite_not, decide_true, decide_false, Bool.true_eq_false, Bool.false_eq_true, decide_eq_true_eq, decide_eq_false_iff_not, hp_I, hp_sI, hp_N, ev_k_s, ev_k_n, true_and, and_true, true_or, or_true, not_true_eq_false, not_false_eq_true, if_true, if_false, ite_self, Option.some.injEq, exists_eq_left', nb_0, nb_1, nb_z, zI_t, zI_f, zI_e, cat_i, cat_r, cat_n, iI_add, iI_sub, iI_mul, iI_neg, iI_lt, iI_le, iI_eq, iI_idx, iI_inT, iI_ne0, ite_false, ite_true, iN_0, iN_1, Int.reduceAdd, Int.reduceSub, Int.reduceMul, Int.reduceNeg, Int.reduceDiv, Int.reduceMod, Int.reduceEq, Int.reduceLT, Int.reduceLE, Int.reduceToNat, Nat.reduceAdd, Nat.reduceSub, Nat.reduceMul, Nat.reduceLT, Nat.reduceLeDiff, Nat.reduceEqDiff, Int.cast_ofNat_Int, Std.le_refl, and_self, Int.toNat_natCast, Int.toNat_zero, Nat.le_refl]
      · cases e; exact ⟨RepP_o j2 fun i q a b => u2_ne (by omega), h2⟩
  · rw [if_pos h]
    refine XR_id hX fun Q => ?_
    simp (disch := first | exact cat_i _ | exact cat_r _ | exact cat_n | omega) only [e99, u99_0, u99_1, u99_4, u99_7, u99_9, u99_10, u99_11, u99_14, u99_15, u99_16, u99_17, u99_20, u99_23, u99_24, u99_27, u99_28, u99_29, u99_30, u99_31, u99_34, u99_37, hT_0, c102, zI_df h, ↓reduceIte, false_and, and_false, false_or, or_false, ite_not, decide_true, decide_false, Bool.true_eq_false, Bool.false_eq_true, decide_eq_true_eq, decide_eq_false_iff_not, hp_I, hp_sI, hp_N, ev_k_s, ev_k_n, true_and, and_true, true_or, or_true, not_true_eq_false, not_false_eq_true, if_true, if_false, ite_self, Option.some.injEq, exists_eq_left', nb_0, nb_1, nb_z, zI_t, zI_f, zI_e, cat_i, cat_r, cat_n, iI_add, iI_sub, iI_mul, iI_neg, iI_lt, iI_le, iI_eq, iI_idx, iI_inT, iI_ne0, ite_false, ite_true, iN_0, iN_1, Int.reduceAdd, Int.reduceSub, Int.reduceMul, Int.reduceNeg, Int.reduceDiv, Int.reduceMod, Int.reduceEq, Int.reduceLT, Int.reduceLE, Int.reduceToNat, Nat.reduceAdd, Nat.reduceSub, Nat.reduceMul, Nat.reduceLT, Nat.reduceLeDiff, Nat.reduceEqDiff, Int.cast_ofNat_Int, Std.le_refl, and_self, Int.toNat_natCast, Int.toNat_zero, Nat.le_refl]
theorem x100 (hX : RepX σ I A) (hs : StI I) (hx1 : -2147483648 ≤ x) (hx2 : x < 2147483648) : XR L σ I 100 [.ref 0, .int (iI x)] (opRest A x) := by
  obtain ⟨h1, h2, h3, h4, h5, h6⟩ := id hX
  obtain ⟨s1, s2, s3, s4⟩ := id h5
  obtain ⟨τ, J, j1, j2, j3, j4, j5⟩ := chg (L := L) hX hs
  unfold opRest
  by_cases h : 0 ≤ x ∧ x < 2
  · rw [if_neg (fun k => k h)]
    rcases (show x = 0 ∨ x = 1 by omega) with rfl | rfl
    · rw [if_pos rfl]
      cases hS : A.2.2.1.1 with
      | none =>
        rw [hS] at s1
        refine XR_id hX fun Q => ?_
        simp (disch := first | exact cat_i _ | exact cat_r _ | exact cat_n | omega) only [e100, u100_0, u100_1, u100_4, u100_7, u100_9, u100_10, u100_11, u100_14, u100_15, u100_16, u100_19, u100_21, u100_22, u100_23, u100_26, u100_27, u100_30, u100_33, u100_34, u100_37, u100_38, u100_41, u100_42, u100_43, u100_46, u100_47, u100_50, u100_53, hT_0, hT_49, hR_0_3, c102, zI_dt h, s1, Option.isSome_none, ↓reduceIte, false_and, and_false, false_or, or_false, ite_not, decide_true, decide_false, Bool.true_eq_false, Bool.false_eq_true, decide_eq_true_eq, decide_eq_false_iff_not, hp_I, hp_sI, hp_N, ev_k_s, ev_k_n, true_and, and_true, true_or, or_true, not_true_eq_false, not_false_eq_true, if_true, if_false, ite_self, Option.some.injEq, exists_eq_left', nb_0, nb_1, nb_z, zI_t, zI_f, zI_e, cat_i, cat_r, cat_n, iI_add, iI_sub, iI_mul, iI_neg, iI_lt, iI_le, iI_eq, iI_idx, iI_inT, iI_ne0, ite_false, ite_true, iN_0, iN_1, Int.reduceAdd, Int.reduceSub, Int.reduceMul, Int.reduceNeg, Int.reduceDiv, Int.reduceMod, Int.reduceEq, Int.reduceLT, Int.reduceLE, Int.reduceToNat, Nat.reduceAdd, Nat.reduceSub, Nat.reduceMul, Nat.reduceLT, Nat.reduceLeDiff, Nat.reduceEqDiff, Int.cast_ofNat_Int, Std.le_refl, and_self, Int.toNat_natCast, Int.toNat_zero, Nat.le_refl]
      | some S =>
        rw [hS] at s1
        obtain ⟨t1, t2⟩ := s3 S hS
        obtain ⟨K, k1, k2, k3⟩ := c47 (L := L) (σ := τ) (t := 1) (t' := 39) (S := S) isp1 (by unfold isp; omega) (by omega) (RepP_o t1 fun i q a b => j4 i q (by omega)) t2
        obtain ⟨r1, r2⟩ := j5 K S k2 t2 k3
        have e25 := fun Q => c25 (L := L) (σ := τ) (Q := Q) isp1 k2
        refine ⟨τ, K, fun Q => ?_, r1, r2⟩
        simp (disch := first | exact cat_i _ | exact cat_r _ | exact cat_n | omega) only [e100, u100_0, u100_1, u100_4, u100_7, u100_9, u100_10, u100_11, u100_14, u100_15, u100_16, u100_19, u100_21, u100_22, u100_23, u100_26, u100_27, u100_30, u100_33, u100_34, u100_37, u100_38, u100_41, u100_42, u100_43, u100_46, u100_47, u100_50, u100_53, hT_0, hT_1, hT_6, hT_38, hT_39, hT_49, hR_0_0, hR_0_1, hR_0_2, hR_0_3, hR_38_0, c102, zI_dt h, s1, Option.isSome_some, j1, k1, e25, if_pos, if_neg, ↓reduceIte, false_and, and_false, false_or, or_false, ite_not, decide_true, decide_false, Bool.true_eq_false, Bool.false_eq_true, decide_eq_true_eq, decide_eq_false_iff_not, hp_I, hp_sI, hp_N, ev_k_s, ev_k_n, true_and, and_true, true_or, or_true, not_true_eq_false, not_false_eq_true, if_true, if_false, ite_self, Option.some.injEq, exists_eq_left', nb_0, nb_1, nb_z, zI_t, zI_f, zI_e, cat_i, cat_r, cat_n, iI_add, iI_sub, iI_mul, iI_neg, iI_lt, iI_le, iI_eq, iI_idx, iI_inT, iI_ne0, ite_false, ite_true, iN_0, iN_1, Int.reduceAdd, Int.reduceSub, Int.reduceMul, Int.reduceNeg, Int.reduceDiv, Int.reduceMod, Int.reduceEq, Int.reduceLT, Int.reduceLE, Int.reduceToNat, Nat.reduceAdd, Nat.reduceSub, Nat.reduceMul, Nat.reduceLT, Nat.reduceLeDiff, Nat.reduceEqDiff, Int.cast_ofNat_Int, Std.le_refl, and_self, Int.toNat_natCast, Int.toNat_zero, Nat.le_refl]
    · rw [if_neg (by omega)]
      cases hS : A.2.2.1.2 with
      | none =>
        rw [hS] at s2
        refine XR_id hX fun Q => ?_
        simp (disch := first | exact cat_i _ | exact cat_r _ | exact cat_n | omega) only [e100, u100_0, u100_1, u100_4, u100_7, u100_9, u100_10, u100_11, u100_14, u100_15, u100_16, u100_19, u100_21, u100_22, u100_23, u100_26, u100_27, u100_30, u100_33, u100_34, u100_37, u100_38, u100_41, u100_42, u100_43, u100_46, u100_47, u100_50, u100_53, hT_0, hT_49, hR_0_3, c102, zI_dt h, s2, Option.isSome_none, ↓reduceIte, false_and, and_false, false_or, or_false, ite_not, decide_true, decide_false, Bool.true_eq_false, Bool.false_eq_true, decide_eq_true_eq, decide_eq_false_iff_not, hp_I, hp_sI, hp_N, ev_k_s, ev_k_n, true_and, and_true, true_or, or_true, not_true_eq_false, not_false_eq_true, if_true, if_false, ite_self, Option.some.injEq, exists_eq_left', nb_0, nb_1, nb_z, zI_t, zI_f, zI_e, cat_i, cat_r, cat_n, iI_add, iI_sub, iI_mul, iI_neg, iI_lt, iI_le, iI_eq, iI_idx, iI_inT, iI_ne0, ite_false, ite_true, iN_0, iN_1, Int.reduceAdd, Int.reduceSub, Int.reduceMul, Int.reduceNeg, Int.reduceDiv, Int.reduceMod, Int.reduceEq, Int.reduceLT, Int.reduceLE, Int.reduceToNat, Nat.reduceAdd, Nat.reduceSub, Nat.reduceMul, Nat.reduceLT, Nat.reduceLeDiff, Nat.reduceEqDiff, Int.cast_ofNat_Int, Std.le_refl, and_self, Int.toNat_natCast, Int.toNat_zero, Nat.le_refl]
      | some S =>
        rw [hS] at s2
        obtain ⟨t1, t2⟩ := s4 S hS
        obtain ⟨K, k1, k2, k3⟩ := c47 (L := L) (σ := τ) (t := 1) (t' := 44) (S := S) isp1 (by unfold isp; omega) (by omega) (RepP_o t1 fun i q a b => j4 i q (by omega)) t2
        obtain ⟨r1, r2⟩ := j5 K S k2 t2 k3
        have e25 := fun Q => c25 (L := L) (σ := τ) (Q := Q) isp1 k2
        refine ⟨τ, K, fun Q => ?_, r1, r2⟩
        simp (disch := first | exact cat_i _ | exact cat_r _ | exact cat_n | omega) only [e100, u100_0, u100_1, u100_4, u100_7, u100_9, u100_10, u100_11, u100_14, u100_15, u100_16, u100_19, u100_21, u100_22, u100_23, u100_26, u100_27, u100_30, u100_33, u100_34, u100_37, u100_38, u100_41, u100_42, u100_43, u100_46, u100_47, u100_50, u100_53, hT_0, hT_1, hT_6, hT_38, hT_44, hT_49, hR_0_0, hR_0_1, hR_0_2, hR_0_3, hR_38_1, c102, zI_dt h, s2, Option.isSome_some, j1, k1, e25, if_pos, if_neg, ↓reduceIte, false_and, and_false, false_or, or_false, ite_not, decide_true, decide_false, Bool.true_eq_false, Bool.false_eq_true, decide_eq_true_eq, decide_eq_false_iff_not, hp_I, hp_sI, hp_N, ev_k_s, ev_k_n, true_and, and_true, true_or, or_true, not_true_eq_false, not_false_eq_true, if_true, if_false, ite_self, Option.some.injEq, exists_eq_left', nb_0, nb_1, nb_z, zI_t, zI_f, zI_e, cat_i, cat_r, cat_n, iI_add, iI_sub, iI_mul, iI_neg, iI_lt, iI_le, iI_eq, iI_idx, iI_inT, iI_ne0, ite_false, ite_true, iN_0, iN_1, Int.reduceAdd, Int.reduceSub, Int.reduceMul, Int.reduceNeg, Int.reduceDiv, Int.reduceMod, Int.reduceEq, Int.reduceLT, Int.reduceLE, Int.reduceToNat, Nat.reduceAdd, Nat.reduceSub, Nat.reduceMul, Nat.reduceLT, Nat.reduceLeDiff, Nat.reduceEqDiff, Int.cast_ofNat_Int, Std.le_refl, and_self, Int.toNat_natCast, Int.toNat_zero, Nat.le_refl]
  · rw [if_pos h]
    refine XR_id hX fun Q => ?_
    simp (disch := first | exact cat_i _ | exact cat_r _ | exact cat_n | omega) only [e100, u100_0, u100_1, u100_4, u100_7, u100_9, u100_10, u100_11, u100_14, u100_15, u100_16, u100_19, u100_21, u100_22, u100_23, u100_26, u100_27, u100_30, u100_33, u100_34, u100_37, u100_38, u100_41, u100_42, u100_43, u100_46, u100_47, u100_50, u100_53, hT_0, c102, zI_df h, ↓reduceIte, false_and, and_false, false_or, or_false, ite_not, decide_true, decide_false, Bool.true_eq_false, Bool.false_eq_true, decide_eq_true_eq, decide_eq_false_iff_not, hp_I, hp_sI, hp_N, ev_k_s, ev_k_n, true_and, and_true, true_or, or_true, not_true_eq_false, not_false_eq_true, if_true, if_false, ite_self, Option.some.injEq, exists_eq_left', nb_0, nb_1, nb_z, zI_t, zI_f, zI_e, cat_i, cat_r, cat_n, iI_add, iI_sub, iI_mul, iI_neg, iI_lt, iI_le, iI_eq, iI_idx, iI_inT, iI_ne0, ite_false, ite_true, iN_0, iN_1, Int.reduceAdd, Int.reduceSub, Int.reduceMul, Int.reduceNeg, Int.reduceDiv, Int.reduceMod, Int.reduceEq, Int.reduceLT, Int.reduceLE, Int.reduceToNat, Nat.reduceAdd, Nat.reduceSub, Nat.reduceMul, Nat.reduceLT, Nat.reduceLeDiff, Nat.reduceEqDiff, Int.cast_ofNat_Int, Std.le_refl, and_self, Int.toNat_natCast, Int.toNat_zero, Nat.le_refl]
theorem c7 : ∀ Q : Option Value → fb_H → Prop, ev_c 7 [.ref 50] (hp L σ I) Q = Q none (hp L σ (fb_u2 I 50 1 (iI 0))) := fun Q => by
  simp (disch := first | exact cat_i _ | exact cat_r _ | exact cat_n | omega) only [e7, u7_0, u7_1, u7_2, u7_5, hT_50, ↓reduceIte, false_and, and_false, false_or, or_false, ite_not, decide_true, decide_false, Bool.true_eq_false, Bool.false_eq_true, decide_eq_true_eq, decide_eq_false_iff_not, hp_I, hp_sI, hp_N, ev_k_s, ev_k_n, true_and, and_true, true_or, or_true, not_true_eq_false, not_false_eq_true, if_true, if_false, ite_self, Option.some.injEq, exists_eq_left', nb_0, nb_1, nb_z, zI_t, zI_f, zI_e, cat_i, cat_r, cat_n, iI_add, iI_sub, iI_mul, iI_neg, iI_lt, iI_le, iI_eq, iI_idx, iI_inT, iI_ne0, ite_false, ite_true, iN_0, iN_1, Int.reduceAdd, Int.reduceSub, Int.reduceMul, Int.reduceNeg, Int.reduceDiv, Int.reduceMod, Int.reduceEq, Int.reduceLT, Int.reduceLE, Int.reduceToNat, Nat.reduceAdd, Nat.reduceSub, Nat.reduceMul, Nat.reduceLT, Nat.reduceLeDiff, Nat.reduceEqDiff, Int.cast_ofNat_Int, Std.le_refl, and_self, Int.toNat_natCast, Int.toNat_zero, Nat.le_refl]
theorem RepT_0 : RepT (fb_u2 I 50 1 (iI 0)) [] := ⟨u2_eq, by decide, fun _ h => absurd h List.not_mem_nil, fun k h => absurd h (Nat.not_lt_zero k)⟩
theorem x96 (hX : RepX σ I A) (hs : StI I) : XR L σ I 96 [.ref 0] (opWipe A) := by
  obtain ⟨h1, h2, h3, h4, h5, h6⟩ := id hX
  have e6 := fun Q => c6 (L := L) (σ := σ) (Q := Q) h6
  have e7 := fun Q => c7 (L := L) (σ := σ) (I := I) Q
  refine ⟨σ, fb_u2 I 50 1 (iI 0), fun Q => ?_, ⟨RepP_o h1 fun i q a b => u2_ne (by omega), h2, h3, RepH_o h4 h3 fun i q a b => u2_ne (by omega), RepSl_o h5 fun i q a b => u2_ne (by omega), RepT_0⟩, fun i q a => u2_ne (by omega)⟩
  simp (disch := first | exact cat_i _ | exact cat_r _ | exact cat_n | omega) only [e96, u96_0, u96_1, u96_4, u96_7, u96_8, u96_9, u96_12, u96_15, u96_16, hT_0, hT_50, hR_0_4, e6, e7, opWipe, ↓reduceIte, false_and, and_false, false_or, or_false, ite_not, decide_true, decide_false, Bool.true_eq_false, Bool.false_eq_true, decide_eq_true_eq, decide_eq_false_iff_not, hp_I, hp_sI, hp_N, ev_k_s, ev_k_n, true_and, and_true, true_or, or_true, not_true_eq_false, not_false_eq_true, if_true, if_false, ite_self, Option.some.injEq, exists_eq_left', nb_0, nb_1, nb_z, zI_t, zI_f, zI_e, cat_i, cat_r, cat_n, iI_add, iI_sub, iI_mul, iI_neg, iI_lt, iI_le, iI_eq, iI_idx, iI_inT, iI_ne0, ite_false, ite_true, iN_0, iN_1, Int.reduceAdd, Int.reduceSub, Int.reduceMul, Int.reduceNeg, Int.reduceDiv, Int.reduceMod, Int.reduceEq, Int.reduceLT, Int.reduceLE, Int.reduceToNat, Nat.reduceAdd, Nat.reduceSub, Nat.reduceMul, Nat.reduceLT, Nat.reduceLeDiff, Nat.reduceEqDiff, Int.cast_ofNat_Int, Std.le_refl, and_self, Int.toNat_natCast, Int.toNat_zero, Nat.le_refl]
end OU
