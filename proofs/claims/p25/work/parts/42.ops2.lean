def opPar (A : AS) (x k : Int) : Int := if ¬ (0 ≤ x ∧ x < A.1.2.length) then -1 else if ¬ (k = 5 ∨ k = 6) then -2 else match (ch A.1 x.toNat).2.2, pre A.1 x.toNat with
  | some v, some p => par (ch A.1 (x.toNat - 1)).1 p (ch A.1 x.toNat).1 v (if k = 5 then 7 else 0)
  | _, _ => -6
def opNear (A : AS) (x w : Int) : Int := if ¬ (0 ≤ x ∧ x < A.1.2.length) then -1 else if ¬ (0 ≤ w ∧ w ≤ 3) then -2 else match pre A.1 x.toNat with
  | none => -5
  | some p => match (near A.1 x.toNat p (wys A.1 x.toNat)).1 with
    | none => -6
    | some v => if w = 3 then (dst p v : Int) else (nt 0 v (w.toNat + 1) : Int)
def opReal (A : AS) : Int × AS := if lsr A.1 < 0 then (lsr A.1, A) else (lsr A.1, (rel A.1 A.1.2.length, pus A.2.1 A.1, A.2.2))
section OT
variable {L : Nat} {σ : Nat → Nat} {I : Nat → Nat → Int32} {A : AS} {x y z w p q r : Int} {Q : Option Value → fb_H → Prop}
theorem x91 (hX : RepX σ I A) (hs : StI I) : XR L σ I 91 [.ref 0] (lsr A.1, A) := by
  obtain ⟨J, j1, j2, j3⟩ := c50 (L := L) (σ := σ) isp1 hX.1 hX.2.1 hs
  refine XR_v (J := J) hX (fun Q => ?_) fun i q a => j2 i q (by omega)
  simp (disch := first | exact cat_i _ | exact cat_r _ | exact cat_n | omega) only [e91, u91_0, u91_1, u91_4, u91_5, u91_8, u91_11, hT_0, hT_58, hR_0_0, hR_0_7, j1, ↓reduceIte, false_and, and_false, false_or, or_false, ite_not, decide_true, decide_false, Bool.true_eq_false, Bool.false_eq_true, decide_eq_true_eq, decide_eq_false_iff_not, hp_I, hp_sI, hp_N, ev_k_s, ev_k_n, true_and, and_true, true_or, or_true, not_true_eq_false, not_false_eq_true, if_true, if_false, ite_self, Option.some.injEq, exists_eq_left', nb_0, nb_1, nb_z, zI_t, zI_f, zI_e, cat_i, cat_r, cat_n, iI_add, iI_sub, iI_mul, iI_neg, iI_lt, iI_le, iI_eq, iI_idx, iI_inT, iI_ne0, ite_false, ite_true, iN_0, iN_1, Int.reduceAdd, Int.reduceSub, Int.reduceMul, Int.reduceNeg, Int.reduceDiv, Int.reduceMod, Int.reduceEq, Int.reduceLT, Int.reduceLE, Int.reduceToNat, Nat.reduceAdd, Nat.reduceSub, Nat.reduceMul, Nat.reduceLT, Nat.reduceLeDiff, Nat.reduceEqDiff, Int.cast_ofNat_Int, Std.le_refl, and_self, Int.toNat_natCast, Int.toNat_zero, Nat.le_refl]
theorem lsr_in (S : Co) : lsr S = -5 ∨ (0 < S.2.length ∧ (lst S).1 < 1000000 ∧ lsr S = ((lst S).1 : Int)) := by
  unfold lsr
  split
  · exact Or.inl rfl
  · split
    · rename_i a b; exact Or.inr ⟨by omega, b, rfl⟩
    · exact Or.inl rfl
theorem x85 (hX : RepX σ I A) (hs : StI I) : XR L σ I 85 [.ref 0] (opReal A) := by
  have hl := VS_len hX.2.1
  obtain ⟨J, j1, j2, j3⟩ := c50 (L := L) (σ := σ) isp1 hX.1 hX.2.1 hs
  have hXJ : RepX σ J A := RepX_o hX fun i q a => j2 i q (by omega)
  have hsJ : StI J := StI_o hs fun i q a => j2 i q (by omega)
  unfold opReal
  rcases lsr_in A.1 with e | ⟨e1, e2, e3⟩
  · rw [if_pos (by omega)]
    rw [e] at j1
    refine XR_v (J := J) hX (fun Q => ?_) fun i q a => j2 i q (by omega)
    rw [e]
    simp (disch := first | exact cat_i _ | exact cat_r _ | exact cat_n | omega) only [e85, u85_0, u85_1, u85_4, u85_5, u85_8, u85_11, u85_12, u85_13, u85_16, u85_17, u85_18, u85_19, u85_22, u85_23, u85_26, u85_29, u85_30, u85_33, u85_34, u85_37, u85_40, u85_41, hT_0, hT_58, hR_0_0, hR_0_1, hR_0_7, j1, ↓reduceIte, false_and, and_false, false_or, or_false, ite_not, decide_true, decide_false, Bool.true_eq_false, Bool.false_eq_true, decide_eq_true_eq, decide_eq_false_iff_not, hp_I, hp_sI, hp_N, ev_k_s, ev_k_n, true_and, and_true, true_or, or_true, not_true_eq_false, not_false_eq_true, if_true, if_false, ite_self, Option.some.injEq, exists_eq_left', nb_0, nb_1, nb_z, zI_t, zI_f, zI_e, cat_i, cat_r, cat_n, iI_add, iI_sub, iI_mul, iI_neg, iI_lt, iI_le, iI_eq, iI_idx, iI_inT, iI_ne0, ite_false, ite_true, iN_0, iN_1, Int.reduceAdd, Int.reduceSub, Int.reduceMul, Int.reduceNeg, Int.reduceDiv, Int.reduceMod, Int.reduceEq, Int.reduceLT, Int.reduceLE, Int.reduceToNat, Nat.reduceAdd, Nat.reduceSub, Nat.reduceMul, Nat.reduceLT, Nat.reduceLeDiff, Nat.reduceEqDiff, Int.cast_ofNat_Int, Std.le_refl, and_self, Int.toNat_natCast, Int.toNat_zero, Nat.le_refl]
  · rw [if_neg (by omega)]
    obtain ⟨g1, g2, g3⟩ := j3 e1
    obtain ⟨τ, B, b1, b2, b3, b4, b5⟩ := chg (L := L) hXJ hsJ
    obtain ⟨K, k1, k2, k3, k4⟩ := c53 (L := L) (σ := τ) (t := 1) isp1 b2 hX.2.1 e2 (fun c hc => RepV_o (g1 c hc) fun q => ⟨b4 _ _ (by omega), b4 _ _ (by omega)⟩) (fun c hc r hr => ⟨(b4 _ _ (by omega)).trans (g2 c hc r hr).1, fun q hq => (b4 _ _ (by omega)).trans ((g2 c hc r hr).2 q hq)⟩) (fun q hq => (b4 _ _ (by omega)).trans (g3 q hq)) e1
    obtain ⟨r1, r2⟩ := b5 K _ k2 k3 k4
    refine ⟨τ, K, fun Q => ?_, r1, fun i q a => (r2 i q a).trans (j2 i q (by omega))⟩
    rw [e3] at j1 ⊢
    simp (disch := first | exact cat_i _ | exact cat_r _ | exact cat_n | omega) only [e85, u85_0, u85_1, u85_4, u85_5, u85_8, u85_11, u85_12, u85_13, u85_16, u85_17, u85_18, u85_19, u85_22, u85_23, u85_26, u85_29, u85_30, u85_33, u85_34, u85_37, u85_40, u85_41, hT_0, hT_1, hT_6, hT_58, hR_0_0, hR_0_1, hR_0_7, j1, b1, k1, if_pos, if_neg, ↓reduceIte, false_and, and_false, false_or, or_false, ite_not, decide_true, decide_false, Bool.true_eq_false, Bool.false_eq_true, decide_eq_true_eq, decide_eq_false_iff_not, hp_I, hp_sI, hp_N, ev_k_s, ev_k_n, true_and, and_true, true_or, or_true, not_true_eq_false, not_false_eq_true, if_true, if_false, ite_self, Option.some.injEq, exists_eq_left', nb_0, nb_1, nb_z, zI_t, zI_f, zI_e, cat_i, cat_r, cat_n, iI_add, iI_sub, iI_mul, iI_neg, iI_lt, iI_le, iI_eq, iI_idx, iI_inT, iI_ne0, ite_false, ite_true, iN_0, iN_1, Int.reduceAdd, Int.reduceSub, Int.reduceMul, Int.reduceNeg, Int.reduceDiv, Int.reduceMod, Int.reduceEq, Int.reduceLT, Int.reduceLE, Int.reduceToNat, Nat.reduceAdd, Nat.reduceSub, Nat.reduceMul, Nat.reduceLT, Nat.reduceLeDiff, Nat.reduceEqDiff, Int.cast_ofNat_Int, Std.le_refl, and_self, Int.toNat_natCast, Int.toNat_zero, Nat.le_refl]
theorem x90 (hX : RepX σ I A) (hs : StI I) (hx1 : -2147483648 ≤ x) (hx2 : x < 2147483648) (hw1 : -2147483648 ≤ w) (hw2 : w < 2147483648) : XR L σ I 90 [.ref 0, .int (iI x), .int (iI w)] (opPar A x w, A) := by
  have hl := VS_len hX.2.1
  refine XR_id hX fun Q => ?_
  unfold opPar
  by_cases h : 0 ≤ x ∧ x < A.1.2.length
  · rw [if_neg (fun k => k h)]
    obtain ⟨n, rfl⟩ := Int.eq_ofNat_of_zero_le h.1
    have hn : n < A.1.2.length := by omega
    have h1 := hX.1
    have h2 := hX.2.1
    simp only [Int.toNat_natCast]
    have e32 := fun Q => c32 (L := L) (σ := σ) (Q := Q) isp1 h1 h2 hn
    have e32p := fun Q => c32p (L := L) (σ := σ) (Q := Q) isp1 h1 h2 (Nat.le_of_lt hn)
    by_cases f : w = 5 ∨ w = 6
    · rw [if_neg (fun k => k f)]
      cases hv : (ch A.1 n).2.2 with
      | none =>
        rcases f with rfl | rfl
        all_goals simp (disch := first | exact cat_i _ | exact cat_r _ | exact cat_n | omega) only [e90, u90_0, u90_1, u90_4, u90_5, u90_8, u90_11, u90_12, u90_13, u90_14, u90_15, u90_18, u90_19, u90_21, u90_24, u90_26, u90_27, u90_28, u90_31, u90_32, u90_35, u90_38, u90_39, u90_42, u90_43, u90_44, u90_45, u90_48, u90_51, u90_53, u90_54, u90_55, u90_56, u90_59, u90_61, u90_64, u90_65, u90_66, u90_67, u90_70, u90_71, u90_72, u90_73, u90_76, u90_77, u90_80, u90_81, u90_84, u90_85, u90_88, hT_0, hT_1, hR_0_0, c26X hX, zI_dt h, e32, hv, Option.isSome_none, ↓reduceIte, false_and, and_false, false_or, or_false, ite_not, decide_true, decide_false, Bool.true_eq_false, Bool.false_eq_true, decide_eq_true_eq, decide_eq_false_iff_not, hp_I, hp_sI, hp_N, ev_k_s, ev_k_n, true_and, and_true, true_or, or_true, not_true_eq_false, not_false_eq_true, if_true, if_false, ite_self, Option.some.injEq, exists_eq_left', nb_0, nb_1, nb_z, zI_t, zI_f, zI_e, cat_i, cat_r, cat_n, iI_add, iI_sub, iI_mul, iI_neg, iI_lt, iI_le, iI_eq, iI_idx, iI_inT, iI_ne0, ite_false, ite_true, iN_0, iN_1, Int.reduceAdd, Int.reduceSub, Int.reduceMul, Int.reduceNeg, Int.reduceDiv, Int.reduceMod, Int.reduceEq, Int.reduceLT, Int.reduceLE, Int.reduceToNat, Nat.reduceAdd, Nat.reduceSub, Nat.reduceMul, Nat.reduceLT, Nat.reduceLeDiff, Nat.reduceEqDiff, Int.cast_ofNat_Int, Std.le_refl, and_self, Int.toNat_natCast, Int.toNat_zero, Nat.le_refl]
      | some v =>
        cases hpr : pre A.1 n with
        | none =>
          rcases f with rfl | rfl
          all_goals simp (disch := first | exact cat_i _ | exact cat_r _ | exact cat_n | omega) only [e90, u90_0, u90_1, u90_4, u90_5, u90_8, u90_11, u90_12, u90_13, u90_14, u90_15, u90_18, u90_19, u90_21, u90_24, u90_26, u90_27, u90_28, u90_31, u90_32, u90_35, u90_38, u90_39, u90_42, u90_43, u90_44, u90_45, u90_48, u90_51, u90_53, u90_54, u90_55, u90_56, u90_59, u90_61, u90_64, u90_65, u90_66, u90_67, u90_70, u90_71, u90_72, u90_73, u90_76, u90_77, u90_80, u90_81, u90_84, u90_85, u90_88, hT_0, hT_1, hR_0_0, c26X hX, zI_dt h, e32, e32p, hv, hpr, Option.isSome_some, Option.isSome_none, ↓reduceIte, false_and, and_false, false_or, or_false, ite_not, decide_true, decide_false, Bool.true_eq_false, Bool.false_eq_true, decide_eq_true_eq, decide_eq_false_iff_not, hp_I, hp_sI, hp_N, ev_k_s, ev_k_n, true_and, and_true, true_or, or_true, not_true_eq_false, not_false_eq_true, if_true, if_false, ite_self, Option.some.injEq, exists_eq_left', nb_0, nb_1, nb_z, zI_t, zI_f, zI_e, cat_i, cat_r, cat_n, iI_add, iI_sub, iI_mul, iI_neg, iI_lt, iI_le, iI_eq, iI_idx, iI_inT, iI_ne0, ite_false, ite_true, iN_0, iN_1, Int.reduceAdd, Int.reduceSub, Int.reduceMul, Int.reduceNeg, Int.reduceDiv, Int.reduceMod, Int.reduceEq, Int.reduceLT, Int.reduceLE, Int.reduceToNat, Nat.reduceAdd, Nat.reduceSub, Nat.reduceMul, Nat.reduceLT, Nat.reduceLeDiff, Nat.reduceEqDiff, Int.cast_ofNat_Int, Std.le_refl, and_self, Int.toNat_natCast, Int.toNat_zero, Nat.le_refl]
        | some p =>
          obtain ⟨k, e, hk, hk2, hk3, hk4⟩ := pre_i h2 (Nat.le_of_lt hn) hpr
          have hvv := (h2.2.2.2.2 n hn).2.2.2 v hv
          have hb := (h2.2.2.2.2 n hn).2.1
          have e34 := fun Q => c34 (L := L) (σ := σ) (Q := Q) isp1 h1 h2 hn hv
          have e34p := fun Q => c34 (L := L) (σ := σ) (Q := Q) isp1 h1 h2 hk hk2
          have en : (n : Int) - 1 = (k : Int) := by omega
          have e63a := fun Q h => c63 (Q := Q) (h := h) (iv := 7) hk4 hk3 (show (ch A.1 n).1 ≤ 99 by omega) hvv (by omega) (by omega)
          have e63b := fun Q h => c63 (Q := Q) (h := h) (iv := 0) hk4 hk3 (show (ch A.1 n).1 ≤ 99 by omega) hvv (by omega) (by omega)
          rw [en] at e32p
          rw [show n - 1 = k by omega]
          rcases f with rfl | rfl
          · simp (disch := first | exact cat_i _ | exact cat_r _ | exact cat_n | omega) only [e90, u90_0, u90_1, u90_4, u90_5, u90_8, u90_11, u90_12, u90_13, u90_14, u90_15, u90_18, u90_19, u90_21, u90_24, u90_26, u90_27, u90_28, u90_31, u90_32, u90_35, u90_38, u90_39, u90_42, u90_43, u90_44, u90_45, u90_48, u90_51, u90_53, u90_54, u90_55, u90_56, u90_59, u90_61, u90_64, u90_65, u90_66, u90_67, u90_70, u90_71, u90_72, u90_73, u90_76, u90_77, u90_80, u90_81, u90_84, u90_85, u90_88, hT_0, hT_1, hR_0_0, c26X hX, zI_dt h, e32, e32p, hv, hpr, Option.isSome_some, en, e34, e34p, e63a, ↓reduceIte, false_and, and_false, false_or, or_false, ite_not, decide_true, decide_false, Bool.true_eq_false, Bool.false_eq_true, decide_eq_true_eq, decide_eq_false_iff_not, hp_I, hp_sI, hp_N, ev_k_s, ev_k_n, true_and, and_true, true_or, or_true, not_true_eq_false, not_false_eq_true, if_true, if_false, ite_self, Option.some.injEq, exists_eq_left', nb_0, nb_1, nb_z, zI_t, zI_f, zI_e, cat_i, cat_r, cat_n, iI_add, iI_sub, iI_mul, iI_neg, iI_lt, iI_le, iI_eq, iI_idx, iI_inT, iI_ne0, ite_false, ite_true, iN_0, iN_1, Int.reduceAdd, Int.reduceSub, Int.reduceMul, Int.reduceNeg, Int.reduceDiv, Int.reduceMod, Int.reduceEq, Int.reduceLT, Int.reduceLE, Int.reduceToNat, Nat.reduceAdd, Nat.reduceSub, Nat.reduceMul, Nat.reduceLT, Nat.reduceLeDiff, Nat.reduceEqDiff, Int.cast_ofNat_Int, Std.le_refl, and_self, Int.toNat_natCast, Int.toNat_zero, Nat.le_refl]
          · simp (disch := first | exact cat_i _ | exact cat_r _ | exact cat_n | omega) only [e90, u90_0, u90_1, u90_4, u90_5, u90_8, u90_11, u90_12, u90_13, u90_14, u90_15, u90_18, u90_19, u90_21, u90_24, u90_26, u90_27, u90_28, u90_31, u90_32, u90_35, u90_38, u90_39, u90_42, u90_43, u90_44, u90_45, u90_48, u90_51, u90_53, u90_54, u90_55, u90_56, u90_59, u90_61, u90_64, u90_65, u90_66, u90_67, u90_70, u90_71, u90_72, u90_73, u90_76, u90_77, u90_80, u90_81, u90_84, u90_85, u90_88, hT_0, hT_1, hR_0_0, c26X hX, zI_dt h, e32, e32p, hv, hpr, Option.isSome_some, en, e34, e34p, e63b, ↓reduceIte, false_and, and_false, false_or, or_false, ite_not, decide_true, decide_false, Bool.true_eq_false, Bool.false_eq_true, decide_eq_true_eq, decide_eq_false_iff_not, hp_I, hp_sI, hp_N, ev_k_s, ev_k_n, true_and, and_true, true_or, or_true, not_true_eq_false, not_false_eq_true, if_true, if_false, ite_self, Option.some.injEq, exists_eq_left', nb_0, nb_1, nb_z, zI_t, zI_f, zI_e, cat_i, cat_r, cat_n, iI_add, iI_sub, iI_mul, iI_neg, iI_lt, iI_le, iI_eq, iI_idx, iI_inT, iI_ne0, ite_false, ite_true, iN_0, iN_1, Int.reduceAdd, Int.reduceSub, Int.reduceMul, Int.reduceNeg, Int.reduceDiv, Int.reduceMod, Int.reduceEq, Int.reduceLT, Int.reduceLE, Int.reduceToNat, Nat.reduceAdd, Nat.reduceSub, Nat.reduceMul, Nat.reduceLT, Nat.reduceLeDiff, Nat.reduceEqDiff, Int.cast_ofNat_Int, Std.le_refl, and_self, Int.toNat_natCast, Int.toNat_zero, Nat.le_refl]
    · rw [if_pos f]
      simp (disch := first | exact cat_i _ | exact cat_r _ | exact cat_n | omega) only [u90_0, u90_1, u90_4, u90_5, u90_8, u90_11, u90_12, u90_13, u90_14, u90_15, u90_18, u90_19, u90_21, u90_24, u90_26, u90_27, u90_28, u90_31, u90_32, u90_35, u90_38, u90_39, e90, hT_0, hT_1, hR_0_0, c26X hX, zI_dt h, ↓reduceIte, false_and, and_false, false_or, or_false, ite_not, decide_true, decide_false, Bool.true_eq_false, Bool.false_eq_true, decide_eq_true_eq, decide_eq_false_iff_not, hp_I, hp_sI, hp_N, ev_k_s, ev_k_n, true_and, and_true, true_or, or_true, not_true_eq_false, not_false_eq_true, if_true, if_false, ite_self, Option.some.injEq, exists_eq_left', nb_0, nb_1, nb_z, zI_t, zI_f, zI_e, cat_i, cat_r, cat_n, iI_add, iI_sub, iI_mul, iI_neg, iI_lt, iI_le, iI_eq, iI_idx, iI_inT, iI_ne0, ite_false, ite_true, iN_0, iN_1, Int.reduceAdd, Int.reduceSub, Int.reduceMul, Int.reduceNeg, Int.reduceDiv, Int.reduceMod, Int.reduceEq, Int.reduceLT, Int.reduceLE, Int.reduceToNat, Nat.reduceAdd, Nat.reduceSub, Nat.reduceMul, Nat.reduceLT, Nat.reduceLeDiff, Nat.reduceEqDiff, Int.cast_ofNat_Int, Std.le_refl, and_self, Int.toNat_natCast, Int.toNat_zero, Nat.le_refl]
      repeat' split
      all_goals first | rfl | (exfalso; omega)
  · rw [if_pos h]
    simp (disch := first | exact cat_i _ | exact cat_r _ | exact cat_n | omega) only [e90, u90_0, u90_1, u90_4, u90_5, u90_8, u90_11, u90_12, u90_13, u90_14, u90_15, u90_18, u90_19, u90_21, u90_24, u90_26, u90_27, u90_28, u90_31, u90_32, u90_35, u90_38, u90_39, u90_42, u90_43, u90_44, u90_45, u90_48, u90_51, u90_53, u90_54, u90_55, u90_56, u90_59, u90_61, u90_64, u90_65, u90_66, u90_67, u90_70, u90_71, u90_72, u90_73, u90_76, u90_77, u90_80, u90_81, u90_84, u90_85, u90_88, hT_0, hT_1, hR_0_0, c26X hX, zI_df h, ↓reduceIte, false_and, and_false, false_or, or_false, ite_not, decide_true, decide_false, Bool.true_eq_false, Bool.false_eq_true, decide_eq_true_eq, decide_eq_false_iff_not, hp_I, hp_sI, hp_N, ev_k_s, ev_k_n, true_and, and_true, true_or, or_true, not_true_eq_false, not_false_eq_true, if_true, if_false, ite_self, Option.some.injEq, exists_eq_left', nb_0, nb_1, nb_z, zI_t, zI_f, zI_e, cat_i, cat_r, cat_n, iI_add, iI_sub, iI_mul, iI_neg, iI_lt, iI_le, iI_eq, iI_idx, iI_inT, iI_ne0, ite_false, ite_true, iN_0, iN_1, Int.reduceAdd, Int.reduceSub, Int.reduceMul, Int.reduceNeg, Int.reduceDiv, Int.reduceMod, Int.reduceEq, Int.reduceLT, Int.reduceLE, Int.reduceToNat, Nat.reduceAdd, Nat.reduceSub, Nat.reduceMul, Nat.reduceLT, Nat.reduceLeDiff, Nat.reduceEqDiff, Int.cast_ofNat_Int, Std.le_refl, and_self, Int.toNat_natCast, Int.toNat_zero, Nat.le_refl]
theorem x92 (hX : RepX σ I A) (hs : StI I) (hx1 : -2147483648 ≤ x) (hx2 : x < 2147483648) (hw1 : -2147483648 ≤ w) (hw2 : w < 2147483648) : XR L σ I 92 [.ref 0, .int (iI x), .int (iI w)] (opNear A x w, A) := by
  have hl := VS_len hX.2.1
  unfold opNear
  by_cases h : 0 ≤ x ∧ x < A.1.2.length
  · rw [if_neg (fun k => k h)]
    obtain ⟨n, rfl⟩ := Int.eq_ofNat_of_zero_le h.1
    have hn : n < A.1.2.length := by omega
    have h1 := hX.1
    have h2 := hX.2.1
    simp only [Int.toNat_natCast]
    have e32p := fun Q => c32p (L := L) (σ := σ) (Q := Q) isp1 h1 h2 (Nat.le_of_lt hn)
    by_cases f : 0 ≤ w ∧ w ≤ 3
    · rw [if_neg (fun k => k f)]
      cases hpr : pre A.1 n with
      | none =>
        refine XR_id hX fun Q => ?_
        simp (disch := first | exact cat_i _ | exact cat_r _ | exact cat_n | omega) only [e92, u92_0, u92_1, u92_4, u92_5, u92_8, u92_11, u92_12, u92_13, u92_14, u92_17, u92_18, u92_19, u92_22, u92_24, u92_25, u92_26, u92_29, u92_30, u92_31, u92_32, u92_35, u92_38, u92_40, u92_41, u92_42, u92_45, u92_46, u92_47, u92_48, u92_51, u92_52, u92_53, u92_56, u92_57, u92_60, u92_61, u92_64, u92_65, u92_68, u92_69, u92_72, u92_73, u92_74, u92_77, u92_79, u92_81, u92_83, u92_86, u92_88, u92_89, u92_90, u92_91, u92_94, u92_95, u92_97, u92_100, u92_103, u92_105, u92_106, u92_107, u92_108, u92_111, hT_0, hT_1, hR_0_0, c26X hX, zI_dt h, e32p, hpr, Option.isSome_none, if_pos, if_neg, ↓reduceIte, false_and, and_false, false_or, or_false, ite_not, decide_true, decide_false, Bool.true_eq_false, Bool.false_eq_true, decide_eq_true_eq, decide_eq_false_iff_not, hp_I, hp_sI, hp_N, ev_k_s, ev_k_n, true_and, and_true, true_or, or_true, not_true_eq_false, not_false_eq_true, if_true, if_false, ite_self, Option.some.injEq, exists_eq_left', nb_0, nb_1, nb_z, zI_t, zI_f, zI_e, cat_i, cat_r, cat_n, iI_add, iI_sub, iI_mul, iI_neg, iI_lt, iI_le, iI_eq, iI_idx, iI_inT, iI_ne0, ite_false, ite_true, iN_0, iN_1, Int.reduceAdd, Int.reduceSub, Int.reduceMul, Int.reduceNeg, Int.reduceDiv, Int.reduceMod, Int.reduceEq, Int.reduceLT, Int.reduceLE, Int.reduceToNat, Nat.reduceAdd, Nat.reduceSub, Nat.reduceMul, Nat.reduceLT, Nat.reduceLeDiff, Nat.reduceEqDiff, Int.cast_ofNat_Int, Std.le_refl, and_self, Int.toNat_natCast, Int.toNat_zero, Nat.le_refl]
      | some p =>
        obtain ⟨k, e, hk, hk2, hk3, hk4⟩ := pre_i h2 (Nat.le_of_lt hn) hpr
        obtain ⟨J, j1, j2, j3⟩ := fnd (L := L) hX hs hn
        have hrJ : RepP J 1 A.1 := RepP_o h1 fun i q _ _ => j3 i q (by omega)
        have hsJ : StI J := StI_o hs fun i q _ => j3 i q (by omega)
        have e31p : ∀ Q : Option Value → fb_H → Prop, ev_c 31 [.ref 1, .int (iI ((n : Int) - 1))] (hp L σ I) Q = Q (some (.int (iI ((pkv p : Nat) : Int)))) (hp L σ I) := fun Q => by rw [show (n : Int) - 1 = (k : Int) by omega, c31 isp1 h1 h2 hk, hk2]; rfl
        have e77 := fun Q => c77 (L := L) (σ := σ) (Q := Q) isp1 isv56 hrJ h2 hsJ hn hpr j2
        refine XR_v (J := J) hX (fun Q => ?_) j3
        dsimp only
        cases hnr : (near A.1 n p (wys A.1 n)).1 with
        | none =>
          rw [hnr] at e77
          simp only [pkB] at e77
          simp (disch := first | exact cat_i _ | exact cat_r _ | exact cat_n | omega) only [e92, u92_0, u92_1, u92_4, u92_5, u92_8, u92_11, u92_12, u92_13, u92_14, u92_17, u92_18, u92_19, u92_22, u92_24, u92_25, u92_26, u92_29, u92_30, u92_31, u92_32, u92_35, u92_38, u92_40, u92_41, u92_42, u92_45, u92_46, u92_47, u92_48, u92_51, u92_52, u92_53, u92_56, u92_57, u92_60, u92_61, u92_64, u92_65, u92_68, u92_69, u92_72, u92_73, u92_74, u92_77, u92_79, u92_81, u92_83, u92_86, u92_88, u92_89, u92_90, u92_91, u92_94, u92_95, u92_97, u92_100, u92_103, u92_105, u92_106, u92_107, u92_108, u92_111, hT_0, hT_1, hT_56, hR_0_0, hR_0_6, c26X hX, zI_dt h, e32p, hpr, Option.isSome_some, e31p, j1, e77, if_pos, if_neg, ↓reduceIte, false_and, and_false, false_or, or_false, ite_not, decide_true, decide_false, Bool.true_eq_false, Bool.false_eq_true, decide_eq_true_eq, decide_eq_false_iff_not, hp_I, hp_sI, hp_N, ev_k_s, ev_k_n, true_and, and_true, true_or, or_true, not_true_eq_false, not_false_eq_true, if_true, if_false, ite_self, Option.some.injEq, exists_eq_left', nb_0, nb_1, nb_z, zI_t, zI_f, zI_e, cat_i, cat_r, cat_n, iI_add, iI_sub, iI_mul, iI_neg, iI_lt, iI_le, iI_eq, iI_idx, iI_inT, iI_ne0, ite_false, ite_true, iN_0, iN_1, Int.reduceAdd, Int.reduceSub, Int.reduceMul, Int.reduceNeg, Int.reduceDiv, Int.reduceMod, Int.reduceEq, Int.reduceLT, Int.reduceLE, Int.reduceToNat, Nat.reduceAdd, Nat.reduceSub, Nat.reduceMul, Nat.reduceLT, Nat.reduceLeDiff, Nat.reduceEqDiff, Int.cast_ofNat_Int, Std.le_refl, and_self, Int.toNat_natCast, Int.toNat_zero, Nat.le_refl]
        | some v =>
          have hvv : VV v := by
            have hin := (lf0 (fun _ _ => True) (fun acc k => nst A.1 n p acc ((wys A.1 n).getD k (0, 0, 0))) (fun acc _ => ∀ v, acc.1 = some v → VV v) (wys A.1 n).length (fun a k hk ha => ⟨?_, rfl⟩) (none, 1000000) (fun v e => by cases e)).2
            · exact hin v hnr
            · unfold nst
              split
              · intro v e; cases e; exact RepV_in j2 hk
              · exact ha
          have hpk := pkv_lt hvv
          rw [hnr] at e77
          simp only [pkB] at e77
          have e111 := fun Q h => c111 (Q := Q) (h := h) hk3 hvv
          have e1 := fun Q h => c110_1 (Q := Q) (h := h) (Nat.zero_le 127) hvv
          have e2 := fun Q h => c110_2 (Q := Q) (h := h) (Nat.zero_le 127) hvv
          have e3 := fun Q h => c110_3 (Q := Q) (h := h) (Nat.zero_le 127) hvv
          rw [← pk0] at e1 e2 e3
          rcases (show w = 0 ∨ w = 1 ∨ w = 2 ∨ w = 3 by omega) with rfl | rfl | rfl | rfl
          all_goals simp (disch := first | exact cat_i _ | exact cat_r _ | exact cat_n | omega) only [e92, u92_0, u92_1, u92_4, u92_5, u92_8, u92_11, u92_12, u92_13, u92_14, u92_17, u92_18, u92_19, u92_22, u92_24, u92_25, u92_26, u92_29, u92_30, u92_31, u92_32, u92_35, u92_38, u92_40, u92_41, u92_42, u92_45, u92_46, u92_47, u92_48, u92_51, u92_52, u92_53, u92_56, u92_57, u92_60, u92_61, u92_64, u92_65, u92_68, u92_69, u92_72, u92_73, u92_74, u92_77, u92_79, u92_81, u92_83, u92_86, u92_88, u92_89, u92_90, u92_91, u92_94, u92_95, u92_97, u92_100, u92_103, u92_105, u92_106, u92_107, u92_108, u92_111, hT_0, hT_1, hT_56, hR_0_0, hR_0_6, c26X hX, zI_dt h, e32p, hpr, Option.isSome_some, e31p, j1, e77, e111, e1, e2, e3, if_pos, if_neg, ↓reduceIte, false_and, and_false, false_or, or_false, ite_not, decide_true, decide_false, Bool.true_eq_false, Bool.false_eq_true, decide_eq_true_eq, decide_eq_false_iff_not, hp_I, hp_sI, hp_N, ev_k_s, ev_k_n, true_and, and_true, true_or, or_true, not_true_eq_false, not_false_eq_true, if_true, if_false, ite_self, Option.some.injEq, exists_eq_left', nb_0, nb_1, nb_z, zI_t, zI_f, zI_e, cat_i, cat_r, cat_n, iI_add, iI_sub, iI_mul, iI_neg, iI_lt, iI_le, iI_eq, iI_idx, iI_inT, iI_ne0, ite_false, ite_true, iN_0, iN_1, Int.reduceAdd, Int.reduceSub, Int.reduceMul, Int.reduceNeg, Int.reduceDiv, Int.reduceMod, Int.reduceEq, Int.reduceLT, Int.reduceLE, Int.reduceToNat, Nat.reduceAdd, Nat.reduceSub, Nat.reduceMul, Nat.reduceLT, Nat.reduceLeDiff, Nat.reduceEqDiff, Int.cast_ofNat_Int, Std.le_refl, and_self, Int.toNat_natCast, Int.toNat_zero, Nat.le_refl]
          all_goals rfl
    · rw [if_pos f]
      refine XR_id hX fun Q => ?_
      simp (disch := first | exact cat_i _ | exact cat_r _ | exact cat_n | omega) only [u92_0, u92_1, u92_4, u92_5, u92_8, u92_11, u92_12, u92_13, u92_14, u92_17, u92_18, u92_19, u92_22, u92_24, u92_25, u92_26, u92_29, u92_30, e92, hT_0, hT_1, hR_0_0, c26X hX, zI_dt h, ↓reduceIte, false_and, and_false, false_or, or_false, ite_not, decide_true, decide_false, Bool.true_eq_false, Bool.false_eq_true, decide_eq_true_eq, decide_eq_false_iff_not, hp_I, hp_sI, hp_N, ev_k_s, ev_k_n, true_and, and_true, true_or, or_true, not_true_eq_false, not_false_eq_true, if_true, if_false, ite_self, Option.some.injEq, exists_eq_left', nb_0, nb_1, nb_z, zI_t, zI_f, zI_e, cat_i, cat_r, cat_n, iI_add, iI_sub, iI_mul, iI_neg, iI_lt, iI_le, iI_eq, iI_idx, iI_inT, iI_ne0, ite_false, ite_true, iN_0, iN_1, Int.reduceAdd, Int.reduceSub, Int.reduceMul, Int.reduceNeg, Int.reduceDiv, Int.reduceMod, Int.reduceEq, Int.reduceLT, Int.reduceLE, Int.reduceToNat, Nat.reduceAdd, Nat.reduceSub, Nat.reduceMul, Nat.reduceLT, Nat.reduceLeDiff, Nat.reduceEqDiff, Int.cast_ofNat_Int, Std.le_refl, and_self, Int.toNat_natCast, Int.toNat_zero, Nat.le_refl]
      repeat' split
      all_goals first | rfl | (exfalso; omega)
  · rw [if_pos h]
    refine XR_id hX fun Q => ?_
    simp (disch := first | exact cat_i _ | exact cat_r _ | exact cat_n | omega) only [e92, u92_0, u92_1, u92_4, u92_5, u92_8, u92_11, u92_12, u92_13, u92_14, u92_17, u92_18, u92_19, u92_22, u92_24, u92_25, u92_26, u92_29, u92_30, u92_31, u92_32, u92_35, u92_38, u92_40, u92_41, u92_42, u92_45, u92_46, u92_47, u92_48, u92_51, u92_52, u92_53, u92_56, u92_57, u92_60, u92_61, u92_64, u92_65, u92_68, u92_69, u92_72, u92_73, u92_74, u92_77, u92_79, u92_81, u92_83, u92_86, u92_88, u92_89, u92_90, u92_91, u92_94, u92_95, u92_97, u92_100, u92_103, u92_105, u92_106, u92_107, u92_108, u92_111, hT_0, hT_1, hR_0_0, c26X hX, zI_df h, ↓reduceIte, false_and, and_false, false_or, or_false, ite_not, decide_true, decide_false, Bool.true_eq_false, Bool.false_eq_true, decide_eq_true_eq, decide_eq_false_iff_not, hp_I, hp_sI, hp_N, ev_k_s, ev_k_n, true_and, and_true, true_or, or_true, not_true_eq_false, not_false_eq_true, if_true, if_false, ite_self, Option.some.injEq, exists_eq_left', nb_0, nb_1, nb_z, zI_t, zI_f, zI_e, cat_i, cat_r, cat_n, iI_add, iI_sub, iI_mul, iI_neg, iI_lt, iI_le, iI_eq, iI_idx, iI_inT, iI_ne0, ite_false, ite_true, iN_0, iN_1, Int.reduceAdd, Int.reduceSub, Int.reduceMul, Int.reduceNeg, Int.reduceDiv, Int.reduceMod, Int.reduceEq, Int.reduceLT, Int.reduceLE, Int.reduceToNat, Nat.reduceAdd, Nat.reduceSub, Nat.reduceMul, Nat.reduceLT, Nat.reduceLeDiff, Nat.reduceEqDiff, Int.cast_ofNat_Int, Std.le_refl, and_self, Int.toNat_natCast, Int.toNat_zero, Nat.le_refl]
end OT
