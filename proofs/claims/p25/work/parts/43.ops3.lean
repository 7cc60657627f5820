def opUndo (A : AS) : Int × AS := if A.2.1.length = 0 then (-5, A) else ((A.2.1.length : Int) - 1, (A.2.1.getD (A.2.1.length - 1) ((0, 0, 0), []), A.2.1.dropLast, A.2.2))
section OU
variable {L : Nat} {σ : Nat → Nat} {I : Nat → Nat → Int32} {A : AS} {x y z w p q r : Int} {Q : Option Value → fb_H → Prop}
theorem x98 (hX : RepX σ I A) (hs : StI I) : XR L σ I 98 [.ref 0] (opUndo A) := by
  obtain ⟨h1, h2, h3, h4, h5, h6⟩ := id hX
  have h46 := h4.2.1
  have e1 := fun Q => c1 (L := L) (Q := Q) h4
  unfold opUndo
  by_cases h : A.2.1.length = 0
  · rw [if_pos h]
    rw [h] at e1
    refine XR_id hX fun Q => ?_
    simp (disch := first | exact cat_i _ | exact cat_r _ | exact cat_n | omega) only [e98, u98_0, u98_1, u98_4, u98_7, u98_10, u98_12, u98_13, u98_14, u98_17, u98_18, u98_21, u98_24, u98_25, u98_28, u98_31, hT_0, hT_6, hR_0_1, e1, if_pos, if_neg, ↓reduceIte, false_and, and_false, false_or, or_false, ite_not, decide_true, decide_false, Bool.true_eq_false, Bool.false_eq_true, decide_eq_true_eq, decide_eq_false_iff_not, hp_I, hp_sI, hp_N, ev_k_s, ev_k_n, true_and, and_true, true_or, or_true, not_true_eq_false, not_false_eq_true, if_true, if_false, ite_self, Option.some.injEq, exists_eq_left', nb_0, nb_1, nb_z, zI_t, zI_f, zI_e, cat_i, cat_r, cat_n, iI_add, iI_sub, iI_mul, iI_neg, iI_lt, iI_le, iI_eq, iI_idx, iI_inT, iI_ne0, ite_false, ite_true, iN_0, iN_1, Int.reduceAdd, Int.reduceSub, Int.reduceMul, Int.reduceNeg, Int.reduceDiv, Int.reduceMod, Int.reduceEq, Int.reduceLT, Int.reduceLE, Int.reduceToNat, Nat.reduceAdd, Nat.reduceSub, Nat.reduceMul, Nat.reduceLT, Nat.reduceLeDiff, Nat.reduceEqDiff, Int.cast_ofNat_Int, Std.le_refl, and_self, Int.toNat_natCast, Int.toNat_zero, Nat.le_refl]
  · rw [if_neg h]
    have hsp : A.2.1 = A.2.1.dropLast ++ [A.2.1.getD (A.2.1.length - 1) ((0, 0, 0), [])] := by
      have hne : A.2.1 ≠ [] := fun e => h (by rw [e]; rfl)
      have := List.dropLast_concat_getLast hne
      rw [List.getD_eq_getElem?_getD, List.getElem?_eq_getElem (by omega), Option.getD_some, ← List.getLast_eq_getElem hne]
      exact this.symm
    have h4' := h4
    rw [hsp] at h4'
    obtain ⟨J, j1, j2, j3, j4, j5⟩ := c4 (L := L) h3 h4'
    have hlen : A.2.1.dropLast.length = A.2.1.length - 1 := List.length_dropLast
    have e1' := fun Q => c1 (L := L) (Q := Q) j2
    rw [hlen, show ((A.2.1.length - 1 : Nat) : Int) = (A.2.1.length : Int) - 1 by omega] at e1'
    refine ⟨σ, J, fun Q => ?_, ⟨j3, j4, h3, j2, RepSl_o h5 fun i q a b => j5 i q (by omega), RepT_o h6 fun i q a b => j5 i q (by omega)⟩, fun i q a => j5 i q (by omega)⟩
    simp (disch := first | exact cat_i _ | exact cat_r _ | exact cat_n | omega) only [e98, u98_0, u98_1, u98_4, u98_7, u98_10, u98_12, u98_13, u98_14, u98_17, u98_18, u98_21, u98_24, u98_25, u98_28, u98_31, hT_0, hT_1, hT_6, hR_0_0, hR_0_1, e1, j1, e1', if_pos, if_neg, ↓reduceIte, false_and, and_false, false_or, or_false, ite_not, decide_true, decide_false, Bool.true_eq_false, Bool.false_eq_true, decide_eq_true_eq, decide_eq_false_iff_not, hp_I, hp_sI, hp_N, ev_k_s, ev_k_n, true_and, and_true, true_or, or_true, not_true_eq_false, not_false_eq_true, if_true, if_false, ite_self, Option.some.injEq, exists_eq_left', nb_0, nb_1, nb_z, zI_t, zI_f, zI_e, cat_i, cat_r, cat_n, iI_add, iI_sub, iI_mul, iI_neg, iI_lt, iI_le, iI_eq, iI_idx, iI_inT, iI_ne0, ite_false, ite_true, iN_0, iN_1, Int.reduceAdd, Int.reduceSub, Int.reduceMul, Int.reduceNeg, Int.reduceDiv, Int.reduceMod, Int.reduceEq, Int.reduceLT, Int.reduceLE, Int.reduceToNat, Nat.reduceAdd, Nat.reduceSub, Nat.reduceMul, Nat.reduceLT, Nat.reduceLeDiff, Nat.reduceEqDiff, Int.cast_ofNat_Int, Std.le_refl, and_self, Int.toNat_natCast, Int.toNat_zero, Nat.le_refl]
end OU
