/-! texts, as the model reads them -/
def TV (T : List Nat) : Prop := T.length ≤ 80 ∧ ∀ c, c ∈ T → 33 ≤ c ∧ c ≤ 126
theorem sgnB {T : List Nat} (hT : TV T) (p : Nat) : sgn T p ≤ 126 := by
  unfold sgn
  by_cases q : p < T.length
  · rw [List.getD_eq_getElem?_getD, List.getElem?_eq_getElem q, Option.getD_some]
    exact (hT.2 _ (List.getElem_mem q)).2
  · rw [List.getD_eq_getElem?_getD, List.getElem?_eq_none (by omega)]
    exact Nat.zero_le _
theorem sgn_0 {T : List Nat} {p : Nat} (h : ¬ p < T.length) : sgn T p = 0 := by
  unfold sgn
  rw [List.getD_eq_getElem?_getD, List.getElem?_eq_none (by omega)]
  rfl
def sgM (T : List Nat) (p : Nat) : Int := if p < T.length then ((sgn T p : Nat) : Int) else -1
theorem sgM_in {T : List Nat} (hT : TV T) (p : Nat) : -1 ≤ sgM T p ∧ sgM T p ≤ 126 := by
  have := sgnB hT p
  unfold sgM
  split <;> omega
theorem sgM_eq {T : List Nat} {p c : Nat} (hc : 0 < c) : (sgM T p = (c : Int)) = (sgn T p = c) := by
  unfold sgM
  apply propext
  by_cases q : p < T.length
  · rw [if_pos q]; omega
  · rw [if_neg q, sgn_0 q]; omega
def dgM (T : List Nat) (p : Nat) : Int := if dg T p = true then (sgn T p : Int) - 48 else -1
theorem dg_i {T : List Nat} {p : Nat} : dg T p = true ↔ 48 ≤ sgn T p ∧ sgn T p ≤ 57 := by
  unfold dg
  exact decide_eq_true_iff
theorem dgM_in {T : List Nat} (p : Nat) : -1 ≤ dgM T p ∧ dgM T p ≤ 9 := by
  unfold dgM
  split
  · rename_i h
    have := dg_i.mp h
    omega
  · omega
theorem sgM_d {T : List Nat} {p : Nat} : (48 ≤ sgM T p ∧ sgM T p ≤ 57) = (dg T p = true) := by
  rw [propext dg_i]
  unfold sgM
  apply propext
  by_cases q : p < T.length
  · rw [if_pos q]; omega
  · rw [if_neg q, sgn_0 q]; omega
def rsN (T : List Nat) (p : Nat) : Int := match rdN T p with
  | some x => (x.2 : Int)
  | none => -1 - (p : Int)
def rsF (T : List Nat) (p : Nat) : Int := match rdF T p with
  | some x => (x.2 : Int)
  | none => -1 - (p : Int)
def rsV (T : List Nat) (p : Nat) : Int := match rdV T p with
  | .inl g => -1 - (g : Int)
  | .inr v => (v.2 : Int)
def rsC (T : List Nat) (p : Nat) : Int := match rdC T p with
  | .inl g => -1 - (g : Int)
  | .inr x => (x.2 : Int)
section MTX
variable {L : Nat} {σ : Nat → Nat} {I J K : Nat → Nat → Int32} {Q : Option Value → fb_H → Prop} {h : fb_H} {x y z : Int} {p c : Nat} {T : List Nat}
theorem c170 (hY : RepY I T) (hT : TV T) (hp' : p < 1000) : ev_c 170 [.ref 102, .int (iI (p : Int))] (hp L σ I) Q = Q (some (.int (iI (sgM T p)))) (hp L σ I) := by
  have h80 := hT.1
  have hl := hY.1
  unfold sgM
  by_cases q : p < T.length
  · rw [if_pos q]
    have hv : I 107 p = iI ((sgn T p : Nat) : Int) := hY.2 p q
    simp (disch := first | exact cat_i _ | exact cat_r _ | exact cat_n | omega) only [e170, u170_0, u170_1, u170_2, u170_5, u170_8, u170_9, u170_12, u170_13, u170_14, u170_17, u170_18, hT_102, hT_107, hR_102_5, hl, hv, if_pos, if_neg, ↓reduceIte, false_and, and_false, false_or, or_false, ite_not, decide_true, decide_false, Bool.true_eq_false, Bool.false_eq_true, decide_eq_true_eq, decide_eq_false_iff_not, hp_I, hp_sI, hp_N, ev_k_s, ev_k_n, true_and, and_true, true_or, or_true, not_true_eq_false, not_false_eq_true, if_true, if_false, ite_self, Option.some.injEq, exists_eq_left', nb_0, nb_1, nb_z, zI_t, zI_f, zI_e, cat_i, cat_r, cat_n, iI_add, iI_sub, iI_mul, iI_neg, iI_lt, iI_le, iI_eq, iI_idx, iI_inT, iI_ne0, ite_false, ite_true, iN_0, iN_1, Int.reduceAdd, Int.reduceSub, Int.reduceMul, Int.reduceNeg, Int.reduceDiv, Int.reduceMod, Int.reduceEq, Int.reduceLT, Int.reduceLE, Int.reduceToNat, Nat.reduceAdd, Nat.reduceSub, Nat.reduceMul, Nat.reduceLT, Nat.reduceLeDiff, Nat.reduceEqDiff, Int.cast_ofNat_Int, Std.le_refl, and_self, Int.toNat_natCast, Int.toNat_zero, Nat.le_refl]
  · rw [if_neg q]
    simp (disch := first | exact cat_i _ | exact cat_r _ | exact cat_n | omega) only [e170, u170_0, u170_1, u170_2, u170_5, u170_8, u170_9, u170_12, u170_13, u170_14, u170_17, u170_18, hT_102, hT_107, hR_102_5, hl, if_pos, if_neg, ↓reduceIte, false_and, and_false, false_or, or_false, ite_not, decide_true, decide_false, Bool.true_eq_false, Bool.false_eq_true, decide_eq_true_eq, decide_eq_false_iff_not, hp_I, hp_sI, hp_N, ev_k_s, ev_k_n, true_and, and_true, true_or, or_true, not_true_eq_false, not_false_eq_true, if_true, if_false, ite_self, Option.some.injEq, exists_eq_left', nb_0, nb_1, nb_z, zI_t, zI_f, zI_e, cat_i, cat_r, cat_n, iI_add, iI_sub, iI_mul, iI_neg, iI_lt, iI_le, iI_eq, iI_idx, iI_inT, iI_ne0, ite_false, ite_true, iN_0, iN_1, Int.reduceAdd, Int.reduceSub, Int.reduceMul, Int.reduceNeg, Int.reduceDiv, Int.reduceMod, Int.reduceEq, Int.reduceLT, Int.reduceLE, Int.reduceToNat, Nat.reduceAdd, Nat.reduceSub, Nat.reduceMul, Nat.reduceLT, Nat.reduceLeDiff, Nat.reduceEqDiff, Int.cast_ofNat_Int, Std.le_refl, and_self, Int.toNat_natCast, Int.toNat_zero, Nat.le_refl]
theorem c171 (hY : RepY I T) (hT : TV T) (hp' : p < 1000) : ev_c 171 [.ref 102, .int (iI (p : Int))] (hp L σ I) Q = Q (some (.int (iI (dgM T p)))) (hp L σ I) := by
  have e170 := fun Q => c170 (L := L) (σ := σ) (Q := Q) hY hT hp'
  have hb := sgM_in hT p
  obtain ⟨hb1, hb2⟩ := hb
  have hd := sgM_d (T := T) (p := p)
  unfold dgM
  cases q : dg T p with
  | true =>
    rw [q] at hd
    have h2 : 48 ≤ sgM T p ∧ sgM T p ≤ 57 := by rw [hd]
    have h3 : sgM T p = (sgn T p : Int) := by
      unfold sgM at h2 ⊢
      by_cases q : p < T.length
      · rw [if_pos q]
      · rw [if_neg q] at h2; omega
    rw [if_pos rfl, ← h3]
    simp (disch := first | exact cat_i _ | exact cat_r _ | exact cat_n | omega) only [e171, u171_0, u171_1, u171_2, u171_5, u171_7, u171_9, u171_12, u171_15, u171_16, u171_17, u171_20, u171_22, u171_23, u171_26, u171_27, hT_102, e170, c113, zI_dt h2, if_pos, if_neg, ↓reduceIte, false_and, and_false, false_or, or_false, ite_not, decide_true, decide_false, Bool.true_eq_false, Bool.false_eq_true, decide_eq_true_eq, decide_eq_false_iff_not, hp_I, hp_sI, hp_N, ev_k_s, ev_k_n, true_and, and_true, true_or, or_true, not_true_eq_false, not_false_eq_true, if_true, if_false, ite_self, Option.some.injEq, exists_eq_left', nb_0, nb_1, nb_z, zI_t, zI_f, zI_e, cat_i, cat_r, cat_n, iI_add, iI_sub, iI_mul, iI_neg, iI_lt, iI_le, iI_eq, iI_idx, iI_inT, iI_ne0, ite_false, ite_true, iN_0, iN_1, Int.reduceAdd, Int.reduceSub, Int.reduceMul, Int.reduceNeg, Int.reduceDiv, Int.reduceMod, Int.reduceEq, Int.reduceLT, Int.reduceLE, Int.reduceToNat, Nat.reduceAdd, Nat.reduceSub, Nat.reduceMul, Nat.reduceLT, Nat.reduceLeDiff, Nat.reduceEqDiff, Int.cast_ofNat_Int, Std.le_refl, and_self, Int.toNat_natCast, Int.toNat_zero, Nat.le_refl]
  | false =>
    rw [q] at hd
    have h2 : ¬ (48 ≤ sgM T p ∧ sgM T p ≤ 57) := by rw [hd]; decide
    rw [if_neg (by decide)]
    simp (disch := first | exact cat_i _ | exact cat_r _ | exact cat_n | omega) only [e171, u171_0, u171_1, u171_2, u171_5, u171_7, u171_9, u171_12, u171_15, u171_16, u171_17, u171_20, u171_22, u171_23, u171_26, u171_27, hT_102, e170, c113, zI_df h2, if_pos, if_neg, ↓reduceIte, false_and, and_false, false_or, or_false, ite_not, decide_true, decide_false, Bool.true_eq_false, Bool.false_eq_true, decide_eq_true_eq, decide_eq_false_iff_not, hp_I, hp_sI, hp_N, ev_k_s, ev_k_n, true_and, and_true, true_or, or_true, not_true_eq_false, not_false_eq_true, if_true, if_false, ite_self, Option.some.injEq, exists_eq_left', nb_0, nb_1, nb_z, zI_t, zI_f, zI_e, cat_i, cat_r, cat_n, iI_add, iI_sub, iI_mul, iI_neg, iI_lt, iI_le, iI_eq, iI_idx, iI_inT, iI_ne0, ite_false, ite_true, iN_0, iN_1, Int.reduceAdd, Int.reduceSub, Int.reduceMul, Int.reduceNeg, Int.reduceDiv, Int.reduceMod, Int.reduceEq, Int.reduceLT, Int.reduceLE, Int.reduceToNat, Nat.reduceAdd, Nat.reduceSub, Nat.reduceMul, Nat.reduceLT, Nat.reduceLeDiff, Nat.reduceEqDiff, Int.cast_ofNat_Int, Std.le_refl, and_self, Int.toNat_natCast, Int.toNat_zero, Nat.le_refl]
theorem c172n (hz1 : -100000 ≤ z) (hz2 : z < 0) : ev_c 172 [.ref 102, .int (iI z)] h Q = Q (some (.int (iI z))) h := by
  simp (disch := first | exact cat_i _ | exact cat_r _ | exact cat_n | omega) only [u172_0, u172_1, u172_4, u172_5, e172, if_pos, if_neg, ↓reduceIte, false_and, and_false, false_or, or_false, ite_not, decide_true, decide_false, Bool.true_eq_false, Bool.false_eq_true, decide_eq_true_eq, decide_eq_false_iff_not, hp_I, hp_sI, hp_N, ev_k_s, ev_k_n, true_and, and_true, true_or, or_true, not_true_eq_false, not_false_eq_true, if_true, if_false, ite_self, Option.some.injEq, exists_eq_left', nb_0, nb_1, nb_z, zI_t, zI_f, zI_e, cat_i, cat_r, cat_n, iI_add, iI_sub, iI_mul, iI_neg, iI_lt, iI_le, iI_eq, iI_idx, iI_inT, iI_ne0, ite_false, ite_true, iN_0, iN_1, Int.reduceAdd, Int.reduceSub, Int.reduceMul, Int.reduceNeg, Int.reduceDiv, Int.reduceMod, Int.reduceEq, Int.reduceLT, Int.reduceLE, Int.reduceToNat, Nat.reduceAdd, Nat.reduceSub, Nat.reduceMul, Nat.reduceLT, Nat.reduceLeDiff, Nat.reduceEqDiff, Int.cast_ofNat_Int, Std.le_refl, and_self, Int.toNat_natCast, Int.toNat_zero, Nat.le_refl]
theorem c172 (hY : RepY I T) (hT : TV T) (hp' : p < 900) : ev_c 172 [.ref 102, .int (iI (p : Int))] (hp L σ I) Q = Q (some (.int (iI (rsN T p)))) (hp L σ I) := by
  have e1 := fun Q => c171 (L := L) (σ := σ) (Q := Q) hY hT (show p < 1000 by omega)
  have e2 := fun Q => c171 (L := L) (σ := σ) (Q := Q) hY hT (p := p + 1) (by omega)
  have ep : ((p + 1 : Nat) : Int) = (p : Int) + 1 := by omega
  rw [ep] at e2
  unfold rsN rdN
  unfold dgM at e1 e2
  cases q : dg T p with
  | false =>
    rw [q, if_neg (by decide)] at e1
    rw [if_neg (by decide)]
    simp (disch := first | exact cat_i _ | exact cat_r _ | exact cat_n | omega) only [e172, u172_0, u172_1, u172_4, u172_5, u172_6, u172_7, u172_8, u172_11, u172_14, u172_15, u172_16, u172_17, u172_18, u172_19, u172_20, u172_23, u172_26, u172_27, u172_28, u172_29, u172_30, u172_33, u172_36, u172_37, u172_38, u172_39, u172_42, u172_43, u172_44, u172_45, hT_102, e1, if_pos, if_neg, ↓reduceIte, false_and, and_false, false_or, or_false, ite_not, decide_true, decide_false, Bool.true_eq_false, Bool.false_eq_true, decide_eq_true_eq, decide_eq_false_iff_not, hp_I, hp_sI, hp_N, ev_k_s, ev_k_n, true_and, and_true, true_or, or_true, not_true_eq_false, not_false_eq_true, if_true, if_false, ite_self, Option.some.injEq, exists_eq_left', nb_0, nb_1, nb_z, zI_t, zI_f, zI_e, cat_i, cat_r, cat_n, iI_add, iI_sub, iI_mul, iI_neg, iI_lt, iI_le, iI_eq, iI_idx, iI_inT, iI_ne0, ite_false, ite_true, iN_0, iN_1, Int.reduceAdd, Int.reduceSub, Int.reduceMul, Int.reduceNeg, Int.reduceDiv, Int.reduceMod, Int.reduceEq, Int.reduceLT, Int.reduceLE, Int.reduceToNat, Nat.reduceAdd, Nat.reduceSub, Nat.reduceMul, Nat.reduceLT, Nat.reduceLeDiff, Nat.reduceEqDiff, Int.cast_ofNat_Int, Std.le_refl, and_self, Int.toNat_natCast, Int.toNat_zero, Nat.le_refl]
    all_goals rfl
  | true =>
    have q' := dg_i.mp q
    rw [q, if_pos rfl] at e1
    rw [if_pos rfl]
    by_cases q1 : 0 < sgn T p - 48
    · cases q2 : dg T (p + 1) with
      | false =>
        rw [q2, if_neg (by decide)] at e2
        rw [if_neg (by rintro ⟨_, a⟩; cases a)]
        simp (disch := first | exact cat_i _ | exact cat_r _ | exact cat_n | omega) only [e172, u172_0, u172_1, u172_4, u172_5, u172_6, u172_7, u172_8, u172_11, u172_14, u172_15, u172_16, u172_17, u172_18, u172_19, u172_20, u172_23, u172_26, u172_27, u172_28, u172_29, u172_30, u172_33, u172_36, u172_37, u172_38, u172_39, u172_42, u172_43, u172_44, u172_45, hT_102, e1, e2, if_pos, if_neg, ↓reduceIte, false_and, and_false, false_or, or_false, ite_not, decide_true, decide_false, Bool.true_eq_false, Bool.false_eq_true, decide_eq_true_eq, decide_eq_false_iff_not, hp_I, hp_sI, hp_N, ev_k_s, ev_k_n, true_and, and_true, true_or, or_true, not_true_eq_false, not_false_eq_true, if_true, if_false, ite_self, Option.some.injEq, exists_eq_left', nb_0, nb_1, nb_z, zI_t, zI_f, zI_e, cat_i, cat_r, cat_n, iI_add, iI_sub, iI_mul, iI_neg, iI_lt, iI_le, iI_eq, iI_idx, iI_inT, iI_ne0, ite_false, ite_true, iN_0, iN_1, Int.reduceAdd, Int.reduceSub, Int.reduceMul, Int.reduceNeg, Int.reduceDiv, Int.reduceMod, Int.reduceEq, Int.reduceLT, Int.reduceLE, Int.reduceToNat, Nat.reduceAdd, Nat.reduceSub, Nat.reduceMul, Nat.reduceLT, Nat.reduceLeDiff, Nat.reduceEqDiff, Int.cast_ofNat_Int, Std.le_refl, and_self, Int.toNat_natCast, Int.toNat_zero, Nat.le_refl]
        all_goals rfl
      | true =>
        have q2' := dg_i.mp q2
        rw [q2, if_pos rfl] at e2
        rw [if_pos ⟨q1, rfl⟩]
        simp (disch := first | exact cat_i _ | exact cat_r _ | exact cat_n | omega) only [e172, u172_0, u172_1, u172_4, u172_5, u172_6, u172_7, u172_8, u172_11, u172_14, u172_15, u172_16, u172_17, u172_18, u172_19, u172_20, u172_23, u172_26, u172_27, u172_28, u172_29, u172_30, u172_33, u172_36, u172_37, u172_38, u172_39, u172_42, u172_43, u172_44, u172_45, hT_102, e1, e2, if_pos, if_neg, ↓reduceIte, false_and, and_false, false_or, or_false, ite_not, decide_true, decide_false, Bool.true_eq_false, Bool.false_eq_true, decide_eq_true_eq, decide_eq_false_iff_not, hp_I, hp_sI, hp_N, ev_k_s, ev_k_n, true_and, and_true, true_or, or_true, not_true_eq_false, not_false_eq_true, if_true, if_false, ite_self, Option.some.injEq, exists_eq_left', nb_0, nb_1, nb_z, zI_t, zI_f, zI_e, cat_i, cat_r, cat_n, iI_add, iI_sub, iI_mul, iI_neg, iI_lt, iI_le, iI_eq, iI_idx, iI_inT, iI_ne0, ite_false, ite_true, iN_0, iN_1, Int.reduceAdd, Int.reduceSub, Int.reduceMul, Int.reduceNeg, Int.reduceDiv, Int.reduceMod, Int.reduceEq, Int.reduceLT, Int.reduceLE, Int.reduceToNat, Nat.reduceAdd, Nat.reduceSub, Nat.reduceMul, Nat.reduceLT, Nat.reduceLeDiff, Nat.reduceEqDiff, Int.cast_ofNat_Int, Std.le_refl, and_self, Int.toNat_natCast, Int.toNat_zero, Nat.le_refl]
        all_goals rfl
    · rw [if_neg (fun a => q1 a.1)]
      simp (disch := first | exact cat_i _ | exact cat_r _ | exact cat_n | omega) only [e172, u172_0, u172_1, u172_4, u172_5, u172_6, u172_7, u172_8, u172_11, u172_14, u172_15, u172_16, u172_17, u172_18, u172_19, u172_20, u172_23, u172_26, u172_27, u172_28, u172_29, u172_30, u172_33, u172_36, u172_37, u172_38, u172_39, u172_42, u172_43, u172_44, u172_45, hT_102, e1, if_pos, if_neg, ↓reduceIte, false_and, and_false, false_or, or_false, ite_not, decide_true, decide_false, Bool.true_eq_false, Bool.false_eq_true, decide_eq_true_eq, decide_eq_false_iff_not, hp_I, hp_sI, hp_N, ev_k_s, ev_k_n, true_and, and_true, true_or, or_true, not_true_eq_false, not_false_eq_true, if_true, if_false, ite_self, Option.some.injEq, exists_eq_left', nb_0, nb_1, nb_z, zI_t, zI_f, zI_e, cat_i, cat_r, cat_n, iI_add, iI_sub, iI_mul, iI_neg, iI_lt, iI_le, iI_eq, iI_idx, iI_inT, iI_ne0, ite_false, ite_true, iN_0, iN_1, Int.reduceAdd, Int.reduceSub, Int.reduceMul, Int.reduceNeg, Int.reduceDiv, Int.reduceMod, Int.reduceEq, Int.reduceLT, Int.reduceLE, Int.reduceToNat, Nat.reduceAdd, Nat.reduceSub, Nat.reduceMul, Nat.reduceLT, Nat.reduceLeDiff, Nat.reduceEqDiff, Int.cast_ofNat_Int, Std.le_refl, and_self, Int.toNat_natCast, Int.toNat_zero, Nat.le_refl]
      all_goals rfl
theorem c173n {c : Int} (hz1 : -100000 ≤ z) (hz2 : z < 0) : ev_c 173 [.ref 102, .int (iI z), .int (iI c)] h Q = Q (some (.int (iI z))) h := by
  simp (disch := first | exact cat_i _ | exact cat_r _ | exact cat_n | omega) only [e173, u173_0, u173_1, u173_4, u173_5, u173_8, u173_9, u173_10, u173_13, u173_14, u173_17, u173_18, u173_19, u173_20, u173_23, u173_24, u173_25, u173_26, if_pos, if_neg, ↓reduceIte, false_and, and_false, false_or, or_false, ite_not, decide_true, decide_false, Bool.true_eq_false, Bool.false_eq_true, decide_eq_true_eq, decide_eq_false_iff_not, hp_I, hp_sI, hp_N, ev_k_s, ev_k_n, true_and, and_true, true_or, or_true, not_true_eq_false, not_false_eq_true, if_true, if_false, ite_self, Option.some.injEq, exists_eq_left', nb_0, nb_1, nb_z, zI_t, zI_f, zI_e, cat_i, cat_r, cat_n, iI_add, iI_sub, iI_mul, iI_neg, iI_lt, iI_le, iI_eq, iI_idx, iI_inT, iI_ne0, ite_false, ite_true, iN_0, iN_1, Int.reduceAdd, Int.reduceSub, Int.reduceMul, Int.reduceNeg, Int.reduceDiv, Int.reduceMod, Int.reduceEq, Int.reduceLT, Int.reduceLE, Int.reduceToNat, Nat.reduceAdd, Nat.reduceSub, Nat.reduceMul, Nat.reduceLT, Nat.reduceLeDiff, Nat.reduceEqDiff, Int.cast_ofNat_Int, Std.le_refl, and_self, Int.toNat_natCast, Int.toNat_zero, Nat.le_refl]
theorem c173 (hY : RepY I T) (hT : TV T) (hp' : p < 900) (hc : 0 < c) (hc2 : c < 1000) : ev_c 173 [.ref 102, .int (iI (p : Int)), .int (iI (c : Int))] (hp L σ I) Q = Q (some (.int (iI (if sgn T p = c then (p : Int) + 1 else -1 - (p : Int))))) (hp L σ I) := by
  have e1 := fun Q => c170 (L := L) (σ := σ) (Q := Q) hY hT (show p < 1000 by omega)
  have hb := sgM_in hT p
  obtain ⟨hb1, hb2⟩ := hb
  have he := sgM_eq (T := T) (p := p) hc
  by_cases q : sgn T p = c
  · have q' : sgM T p = (c : Int) := by rw [he]; exact q
    rw [if_pos q]
    simp (disch := first | exact cat_i _ | exact cat_r _ | exact cat_n | omega) only [e173, u173_0, u173_1, u173_4, u173_5, u173_8, u173_9, u173_10, u173_13, u173_14, u173_17, u173_18, u173_19, u173_20, u173_23, u173_24, u173_25, u173_26, hT_102, e1, q', if_pos, if_neg, ↓reduceIte, false_and, and_false, false_or, or_false, ite_not, decide_true, decide_false, Bool.true_eq_false, Bool.false_eq_true, decide_eq_true_eq, decide_eq_false_iff_not, hp_I, hp_sI, hp_N, ev_k_s, ev_k_n, true_and, and_true, true_or, or_true, not_true_eq_false, not_false_eq_true, if_true, if_false, ite_self, Option.some.injEq, exists_eq_left', nb_0, nb_1, nb_z, zI_t, zI_f, zI_e, cat_i, cat_r, cat_n, iI_add, iI_sub, iI_mul, iI_neg, iI_lt, iI_le, iI_eq, iI_idx, iI_inT, iI_ne0, ite_false, ite_true, iN_0, iN_1, Int.reduceAdd, Int.reduceSub, Int.reduceMul, Int.reduceNeg, Int.reduceDiv, Int.reduceMod, Int.reduceEq, Int.reduceLT, Int.reduceLE, Int.reduceToNat, Nat.reduceAdd, Nat.reduceSub, Nat.reduceMul, Nat.reduceLT, Nat.reduceLeDiff, Nat.reduceEqDiff, Int.cast_ofNat_Int, Std.le_refl, and_self, Int.toNat_natCast, Int.toNat_zero, Nat.le_refl]
  · have q' : ¬ sgM T p = (c : Int) := by rw [he]; exact q
    rw [if_neg q]
    simp (disch := first | exact cat_i _ | exact cat_r _ | exact cat_n | omega) only [e173, u173_0, u173_1, u173_4, u173_5, u173_8, u173_9, u173_10, u173_13, u173_14, u173_17, u173_18, u173_19, u173_20, u173_23, u173_24, u173_25, u173_26, hT_102, e1, if_pos, if_neg, ↓reduceIte, false_and, and_false, false_or, or_false, ite_not, decide_true, decide_false, Bool.true_eq_false, Bool.false_eq_true, decide_eq_true_eq, decide_eq_false_iff_not, hp_I, hp_sI, hp_N, ev_k_s, ev_k_n, true_and, and_true, true_or, or_true, not_true_eq_false, not_false_eq_true, if_true, if_false, ite_self, Option.some.injEq, exists_eq_left', nb_0, nb_1, nb_z, zI_t, zI_f, zI_e, cat_i, cat_r, cat_n, iI_add, iI_sub, iI_mul, iI_neg, iI_lt, iI_le, iI_eq, iI_idx, iI_inT, iI_ne0, ite_false, ite_true, iN_0, iN_1, Int.reduceAdd, Int.reduceSub, Int.reduceMul, Int.reduceNeg, Int.reduceDiv, Int.reduceMod, Int.reduceEq, Int.reduceLT, Int.reduceLE, Int.reduceToNat, Nat.reduceAdd, Nat.reduceSub, Nat.reduceMul, Nat.reduceLT, Nat.reduceLeDiff, Nat.reduceEqDiff, Int.cast_ofNat_Int, Std.le_refl, and_self, Int.toNat_natCast, Int.toNat_zero, Nat.le_refl]
theorem c174 (hY : RepY I T) (hT : TV T) (hp' : p < 900) : ev_c 174 [.ref 102, .int (iI (p : Int))] (hp L σ I) Q = Q (some (.int (iI (rsF T p)))) (hp L σ I) := by
  have e1 := fun Q => c171 (L := L) (σ := σ) (Q := Q) hY hT (show p < 1000 by omega)
  have e2 := fun Q => c171 (L := L) (σ := σ) (Q := Q) hY hT (p := p + 1) (by omega)
  have ep : ((p + 1 : Nat) : Int) = (p : Int) + 1 := by omega
  rw [ep] at e2
  have b1 := dgM_in (T := T) p
  have b2 := dgM_in (T := T) (p + 1)
  obtain ⟨b11, b12⟩ := b1
  obtain ⟨b21, b22⟩ := b2
  have h5 : dgM T p = 5 ↔ sgn T p = 53 := by
    unfold dgM
    cases q : dg T p with
    | true => rw [if_pos rfl]; omega
    | false =>
      rw [if_neg (by decide)]
      have : ¬ (48 ≤ sgn T p ∧ sgn T p ≤ 57) := fun a => by rw [dg_i.mpr a] at q; cases q
      omega
  have h6 : dgM T p = 6 ↔ sgn T p = 54 := by
    unfold dgM
    cases q : dg T p with
    | true => rw [if_pos rfl]; omega
    | false =>
      rw [if_neg (by decide)]
      have : ¬ (48 ≤ sgn T p ∧ sgn T p ≤ 57) := fun a => by rw [dg_i.mpr a] at q; cases q
      omega
  have h7 : dgM T p = 7 ↔ sgn T p = 55 := by
    unfold dgM
    cases q : dg T p with
    | true => rw [if_pos rfl]; omega
    | false =>
      rw [if_neg (by decide)]
      have : ¬ (48 ≤ sgn T p ∧ sgn T p ≤ 57) := fun a => by rw [dg_i.mpr a] at q; cases q
      omega
  have h4 : dgM T (p + 1) = 4 ↔ sgn T (p + 1) = 52 := by
    unfold dgM
    cases q : dg T (p + 1) with
    | true => rw [if_pos rfl]; omega
    | false =>
      rw [if_neg (by decide)]
      have : ¬ (48 ≤ sgn T (p + 1) ∧ sgn T (p + 1) ≤ 57) := fun a => by rw [dg_i.mpr a] at q; cases q
      omega
  unfold rsF rdF
  generalize dgM T p = d1 at *
  generalize dgM T (p + 1) = d2 at *
  by_cases q5 : sgn T p = 53
  · have hd := h5.mpr q5
    subst hd
    rw [if_pos q5]
    simp (disch := first | exact cat_i _ | exact cat_r _ | exact cat_n | omega) only [e174, u174_0, u174_1, u174_2, u174_5, u174_6, u174_8, u174_11, u174_14, u174_15, u174_16, u174_17, u174_18, u174_19, u174_20, u174_23, u174_25, u174_28, u174_29, u174_30, u174_31, u174_32, u174_35, u174_36, u174_39, u174_40, u174_41, u174_42, u174_45, u174_46, u174_47, u174_48, hT_102, e1, c113, if_pos, if_neg, ↓reduceIte, false_and, and_false, false_or, or_false, ite_not, decide_true, decide_false, Bool.true_eq_false, Bool.false_eq_true, decide_eq_true_eq, decide_eq_false_iff_not, hp_I, hp_sI, hp_N, ev_k_s, ev_k_n, true_and, and_true, true_or, or_true, not_true_eq_false, not_false_eq_true, if_true, if_false, ite_self, Option.some.injEq, exists_eq_left', nb_0, nb_1, nb_z, zI_t, zI_f, zI_e, cat_i, cat_r, cat_n, iI_add, iI_sub, iI_mul, iI_neg, iI_lt, iI_le, iI_eq, iI_idx, iI_inT, iI_ne0, ite_false, ite_true, iN_0, iN_1, Int.reduceAdd, Int.reduceSub, Int.reduceMul, Int.reduceNeg, Int.reduceDiv, Int.reduceMod, Int.reduceEq, Int.reduceLT, Int.reduceLE, Int.reduceToNat, Nat.reduceAdd, Nat.reduceSub, Nat.reduceMul, Nat.reduceLT, Nat.reduceLeDiff, Nat.reduceEqDiff, Int.cast_ofNat_Int, Std.le_refl, and_self, Int.toNat_natCast, Int.toNat_zero, Nat.le_refl]
    all_goals rfl
  · rw [if_neg q5]
    by_cases q7 : sgn T p = 55
    · have hd := h7.mpr q7
      subst hd
      rw [if_pos q7]
      simp (disch := first | exact cat_i _ | exact cat_r _ | exact cat_n | omega) only [e174, u174_0, u174_1, u174_2, u174_5, u174_6, u174_8, u174_11, u174_14, u174_15, u174_16, u174_17, u174_18, u174_19, u174_20, u174_23, u174_25, u174_28, u174_29, u174_30, u174_31, u174_32, u174_35, u174_36, u174_39, u174_40, u174_41, u174_42, u174_45, u174_46, u174_47, u174_48, hT_102, e1, c113, if_pos, if_neg, ↓reduceIte, false_and, and_false, false_or, or_false, ite_not, decide_true, decide_false, Bool.true_eq_false, Bool.false_eq_true, decide_eq_true_eq, decide_eq_false_iff_not, hp_I, hp_sI, hp_N, ev_k_s, ev_k_n, true_and, and_true, true_or, or_true, not_true_eq_false, not_false_eq_true, if_true, if_false, ite_self, Option.some.injEq, exists_eq_left', nb_0, nb_1, nb_z, zI_t, zI_f, zI_e, cat_i, cat_r, cat_n, iI_add, iI_sub, iI_mul, iI_neg, iI_lt, iI_le, iI_eq, iI_idx, iI_inT, iI_ne0, ite_false, ite_true, iN_0, iN_1, Int.reduceAdd, Int.reduceSub, Int.reduceMul, Int.reduceNeg, Int.reduceDiv, Int.reduceMod, Int.reduceEq, Int.reduceLT, Int.reduceLE, Int.reduceToNat, Nat.reduceAdd, Nat.reduceSub, Nat.reduceMul, Nat.reduceLT, Nat.reduceLeDiff, Nat.reduceEqDiff, Int.cast_ofNat_Int, Std.le_refl, and_self, Int.toNat_natCast, Int.toNat_zero, Nat.le_refl]
      all_goals rfl
    · rw [if_neg q7]
      by_cases q6 : sgn T p = 54
      · have hd := h6.mpr q6
        subst hd
        rw [if_pos q6]
        by_cases q4 : sgn T (p + 1) = 52
        · have hd2 := h4.mpr q4
          subst hd2
          rw [if_pos q4]
          simp (disch := first | exact cat_i _ | exact cat_r _ | exact cat_n | omega) only [e174, u174_0, u174_1, u174_2, u174_5, u174_6, u174_8, u174_11, u174_14, u174_15, u174_16, u174_17, u174_18, u174_19, u174_20, u174_23, u174_25, u174_28, u174_29, u174_30, u174_31, u174_32, u174_35, u174_36, u174_39, u174_40, u174_41, u174_42, u174_45, u174_46, u174_47, u174_48, hT_102, e1, e2, c113, if_pos, if_neg, ↓reduceIte, false_and, and_false, false_or, or_false, ite_not, decide_true, decide_false, Bool.true_eq_false, Bool.false_eq_true, decide_eq_true_eq, decide_eq_false_iff_not, hp_I, hp_sI, hp_N, ev_k_s, ev_k_n, true_and, and_true, true_or, or_true, not_true_eq_false, not_false_eq_true, if_true, if_false, ite_self, Option.some.injEq, exists_eq_left', nb_0, nb_1, nb_z, zI_t, zI_f, zI_e, cat_i, cat_r, cat_n, iI_add, iI_sub, iI_mul, iI_neg, iI_lt, iI_le, iI_eq, iI_idx, iI_inT, iI_ne0, ite_false, ite_true, iN_0, iN_1, Int.reduceAdd, Int.reduceSub, Int.reduceMul, Int.reduceNeg, Int.reduceDiv, Int.reduceMod, Int.reduceEq, Int.reduceLT, Int.reduceLE, Int.reduceToNat, Nat.reduceAdd, Nat.reduceSub, Nat.reduceMul, Nat.reduceLT, Nat.reduceLeDiff, Nat.reduceEqDiff, Int.cast_ofNat_Int, Std.le_refl, and_self, Int.toNat_natCast, Int.toNat_zero, Nat.le_refl]
          all_goals rfl
        · have hd2 : ¬ d2 = 4 := fun a => q4 (h4.mp a)
          rw [if_neg q4]
          simp (disch := first | exact cat_i _ | exact cat_r _ | exact cat_n | omega) only [e174, u174_0, u174_1, u174_2, u174_5, u174_6, u174_8, u174_11, u174_14, u174_15, u174_16, u174_17, u174_18, u174_19, u174_20, u174_23, u174_25, u174_28, u174_29, u174_30, u174_31, u174_32, u174_35, u174_36, u174_39, u174_40, u174_41, u174_42, u174_45, u174_46, u174_47, u174_48, hT_102, e1, e2, c113, if_pos, if_neg, ↓reduceIte, false_and, and_false, false_or, or_false, ite_not, decide_true, decide_false, Bool.true_eq_false, Bool.false_eq_true, decide_eq_true_eq, decide_eq_false_iff_not, hp_I, hp_sI, hp_N, ev_k_s, ev_k_n, true_and, and_true, true_or, or_true, not_true_eq_false, not_false_eq_true, if_true, if_false, ite_self, Option.some.injEq, exists_eq_left', nb_0, nb_1, nb_z, zI_t, zI_f, zI_e, cat_i, cat_r, cat_n, iI_add, iI_sub, iI_mul, iI_neg, iI_lt, iI_le, iI_eq, iI_idx, iI_inT, iI_ne0, ite_false, ite_true, iN_0, iN_1, Int.reduceAdd, Int.reduceSub, Int.reduceMul, Int.reduceNeg, Int.reduceDiv, Int.reduceMod, Int.reduceEq, Int.reduceLT, Int.reduceLE, Int.reduceToNat, Nat.reduceAdd, Nat.reduceSub, Nat.reduceMul, Nat.reduceLT, Nat.reduceLeDiff, Nat.reduceEqDiff, Int.cast_ofNat_Int, Std.le_refl, and_self, Int.toNat_natCast, Int.toNat_zero, Nat.le_refl]
          all_goals rfl
      · rw [if_neg q6]
        have hd : ¬ (5 ≤ d1 ∧ d1 ≤ 7) := by omega
        simp (disch := first | exact cat_i _ | exact cat_r _ | exact cat_n | omega) only [e174, u174_0, u174_1, u174_2, u174_5, u174_6, u174_8, u174_11, u174_14, u174_15, u174_16, u174_17, u174_18, u174_19, u174_20, u174_23, u174_25, u174_28, u174_29, u174_30, u174_31, u174_32, u174_35, u174_36, u174_39, u174_40, u174_41, u174_42, u174_45, u174_46, u174_47, u174_48, hT_102, e1, c113, zI_df hd, if_pos, if_neg, ↓reduceIte, false_and, and_false, false_or, or_false, ite_not, decide_true, decide_false, Bool.true_eq_false, Bool.false_eq_true, decide_eq_true_eq, decide_eq_false_iff_not, hp_I, hp_sI, hp_N, ev_k_s, ev_k_n, true_and, and_true, true_or, or_true, not_true_eq_false, not_false_eq_true, if_true, if_false, ite_self, Option.some.injEq, exists_eq_left', nb_0, nb_1, nb_z, zI_t, zI_f, zI_e, cat_i, cat_r, cat_n, iI_add, iI_sub, iI_mul, iI_neg, iI_lt, iI_le, iI_eq, iI_idx, iI_inT, iI_ne0, ite_false, ite_true, iN_0, iN_1, Int.reduceAdd, Int.reduceSub, Int.reduceMul, Int.reduceNeg, Int.reduceDiv, Int.reduceMod, Int.reduceEq, Int.reduceLT, Int.reduceLE, Int.reduceToNat, Nat.reduceAdd, Nat.reduceSub, Nat.reduceMul, Nat.reduceLT, Nat.reduceLeDiff, Nat.reduceEqDiff, Int.cast_ofNat_Int, Std.le_refl, and_self, Int.toNat_natCast, Int.toNat_zero, Nat.le_refl]
        all_goals rfl
theorem c175 (hY : RepY I T) (hT : TV T) (hp' : p < 200) (hs : sgn T p = 61) : ev_c 175 [.ref 102, .int (iI (p : Int))] (hp L σ I) Q = Q (some (.int (iI (rsV T (p + 1))))) (hp L σ I) := by
  have b1 := fun Q => c173 (L := L) (σ := σ) (Q := Q) hY hT (show p < 900 by omega) (c := 61) (by omega) (by omega)
  have n1 := fun Q => c172 (L := L) (σ := σ) (Q := Q) hY hT (p := p + 1) (by omega)
  have ep : ((p + 1 : Nat) : Int) = (p : Int) + 1 := by omega
  rw [hs, if_pos rfl] at b1
  simp only [Int.cast_ofNat_Int] at b1
  rw [ep] at n1
  unfold rsV rdV
  unfold rsN at n1
  cases q1 : rdN T (p + 1) with
  | none =>
    rw [q1] at n1
    simp (disch := first | exact cat_i _ | exact cat_r _ | exact cat_n | omega) only [e175, u175_0, u175_1, u175_2, u175_3, u175_5, u175_8, u175_11, u175_12, u175_13, u175_14, u175_15, u175_17, u175_20, u175_23, u175_24, u175_25, u175_26, u175_27, u175_29, u175_32, u175_35, hT_102, b1, n1, c173n, c172n, if_pos, if_neg, ↓reduceIte, false_and, and_false, false_or, or_false, ite_not, decide_true, decide_false, Bool.true_eq_false, Bool.false_eq_true, decide_eq_true_eq, decide_eq_false_iff_not, hp_I, hp_sI, hp_N, ev_k_s, ev_k_n, true_and, and_true, true_or, or_true, not_true_eq_false, not_false_eq_true, if_true, if_false, ite_self, Option.some.injEq, exists_eq_left', nb_0, nb_1, nb_z, zI_t, zI_f, zI_e, cat_i, cat_r, cat_n, iI_add, iI_sub, iI_mul, iI_neg, iI_lt, iI_le, iI_eq, iI_idx, iI_inT, iI_ne0, ite_false, ite_true, iN_0, iN_1, Int.reduceAdd, Int.reduceSub, Int.reduceMul, Int.reduceNeg, Int.reduceDiv, Int.reduceMod, Int.reduceEq, Int.reduceLT, Int.reduceLE, Int.reduceToNat, Nat.reduceAdd, Nat.reduceSub, Nat.reduceMul, Nat.reduceLT, Nat.reduceLeDiff, Nat.reduceEqDiff, Int.cast_ofNat_Int, Std.le_refl, and_self, Int.toNat_natCast, Int.toNat_zero, Nat.le_refl]
    all_goals rfl
  | some x =>
    have i1 := rdN_in q1
    rw [q1] at n1
    have b2 := fun Q => c173 (L := L) (σ := σ) (Q := Q) hY hT (p := x.2) (c := 44) (by omega) (by omega) (by omega)
    simp only [Int.cast_ofNat_Int] at b2
    dsimp only at n1 ⊢
    by_cases q2 : sgn T x.2 = 44
    · rw [if_pos q2] at b2 ⊢
      have n2 := fun Q => c172 (L := L) (σ := σ) (Q := Q) hY hT (p := x.2 + 1) (by omega)
      have ep2 : ((x.2 + 1 : Nat) : Int) = (x.2 : Int) + 1 := by omega
      rw [ep2] at n2
      unfold rsN at n2
      cases q3 : rdN T (x.2 + 1) with
      | none =>
        rw [q3] at n2
        simp (disch := first | exact cat_i _ | exact cat_r _ | exact cat_n | omega) only [e175, u175_0, u175_1, u175_2, u175_3, u175_5, u175_8, u175_11, u175_12, u175_13, u175_14, u175_15, u175_17, u175_20, u175_23, u175_24, u175_25, u175_26, u175_27, u175_29, u175_32, u175_35, hT_102, b1, n1, b2, n2, c173n, c172n, if_pos, if_neg, ↓reduceIte, false_and, and_false, false_or, or_false, ite_not, decide_true, decide_false, Bool.true_eq_false, Bool.false_eq_true, decide_eq_true_eq, decide_eq_false_iff_not, hp_I, hp_sI, hp_N, ev_k_s, ev_k_n, true_and, and_true, true_or, or_true, not_true_eq_false, not_false_eq_true, if_true, if_false, ite_self, Option.some.injEq, exists_eq_left', nb_0, nb_1, nb_z, zI_t, zI_f, zI_e, cat_i, cat_r, cat_n, iI_add, iI_sub, iI_mul, iI_neg, iI_lt, iI_le, iI_eq, iI_idx, iI_inT, iI_ne0, ite_false, ite_true, iN_0, iN_1, Int.reduceAdd, Int.reduceSub, Int.reduceMul, Int.reduceNeg, Int.reduceDiv, Int.reduceMod, Int.reduceEq, Int.reduceLT, Int.reduceLE, Int.reduceToNat, Nat.reduceAdd, Nat.reduceSub, Nat.reduceMul, Nat.reduceLT, Nat.reduceLeDiff, Nat.reduceEqDiff, Int.cast_ofNat_Int, Std.le_refl, and_self, Int.toNat_natCast, Int.toNat_zero, Nat.le_refl]
        all_goals rfl
      | some y =>
        have i2 := rdN_in q3
        rw [q3] at n2
        have b3 := fun Q => c173 (L := L) (σ := σ) (Q := Q) hY hT (p := y.2) (c := 44) (by omega) (by omega) (by omega)
        simp only [Int.cast_ofNat_Int] at b3
        dsimp only at n2 ⊢
        by_cases q4 : sgn T y.2 = 44
        · rw [if_pos q4] at b3 ⊢
          have n3 := fun Q => c172 (L := L) (σ := σ) (Q := Q) hY hT (p := y.2 + 1) (by omega)
          have ep3 : ((y.2 + 1 : Nat) : Int) = (y.2 : Int) + 1 := by omega
          rw [ep3] at n3
          unfold rsN at n3
          cases q5 : rdN T (y.2 + 1) with
          | none =>
            rw [q5] at n3
            simp (disch := first | exact cat_i _ | exact cat_r _ | exact cat_n | omega) only [e175, u175_0, u175_1, u175_2, u175_3, u175_5, u175_8, u175_11, u175_12, u175_13, u175_14, u175_15, u175_17, u175_20, u175_23, u175_24, u175_25, u175_26, u175_27, u175_29, u175_32, u175_35, hT_102, b1, n1, b2, n2, b3, n3, c173n, c172n, if_pos, if_neg, ↓reduceIte, false_and, and_false, false_or, or_false, ite_not, decide_true, decide_false, Bool.true_eq_false, Bool.false_eq_true, decide_eq_true_eq, decide_eq_false_iff_not, hp_I, hp_sI, hp_N, ev_k_s, ev_k_n, true_and, and_true, true_or, or_true, not_true_eq_false, not_false_eq_true, if_true, if_false, ite_self, Option.some.injEq, exists_eq_left', nb_0, nb_1, nb_z, zI_t, zI_f, zI_e, cat_i, cat_r, cat_n, iI_add, iI_sub, iI_mul, iI_neg, iI_lt, iI_le, iI_eq, iI_idx, iI_inT, iI_ne0, ite_false, ite_true, iN_0, iN_1, Int.reduceAdd, Int.reduceSub, Int.reduceMul, Int.reduceNeg, Int.reduceDiv, Int.reduceMod, Int.reduceEq, Int.reduceLT, Int.reduceLE, Int.reduceToNat, Nat.reduceAdd, Nat.reduceSub, Nat.reduceMul, Nat.reduceLT, Nat.reduceLeDiff, Nat.reduceEqDiff, Int.cast_ofNat_Int, Std.le_refl, and_self, Int.toNat_natCast, Int.toNat_zero, Nat.le_refl]
            all_goals rfl
          | some w =>
            rw [q5] at n3
            simp (disch := first | exact cat_i _ | exact cat_r _ | exact cat_n | omega) only [e175, u175_0, u175_1, u175_2, u175_3, u175_5, u175_8, u175_11, u175_12, u175_13, u175_14, u175_15, u175_17, u175_20, u175_23, u175_24, u175_25, u175_26, u175_27, u175_29, u175_32, u175_35, hT_102, b1, n1, b2, n2, b3, n3, if_pos, if_neg, ↓reduceIte, false_and, and_false, false_or, or_false, ite_not, decide_true, decide_false, Bool.true_eq_false, Bool.false_eq_true, decide_eq_true_eq, decide_eq_false_iff_not, hp_I, hp_sI, hp_N, ev_k_s, ev_k_n, true_and, and_true, true_or, or_true, not_true_eq_false, not_false_eq_true, if_true, if_false, ite_self, Option.some.injEq, exists_eq_left', nb_0, nb_1, nb_z, zI_t, zI_f, zI_e, cat_i, cat_r, cat_n, iI_add, iI_sub, iI_mul, iI_neg, iI_lt, iI_le, iI_eq, iI_idx, iI_inT, iI_ne0, ite_false, ite_true, iN_0, iN_1, Int.reduceAdd, Int.reduceSub, Int.reduceMul, Int.reduceNeg, Int.reduceDiv, Int.reduceMod, Int.reduceEq, Int.reduceLT, Int.reduceLE, Int.reduceToNat, Nat.reduceAdd, Nat.reduceSub, Nat.reduceMul, Nat.reduceLT, Nat.reduceLeDiff, Nat.reduceEqDiff, Int.cast_ofNat_Int, Std.le_refl, and_self, Int.toNat_natCast, Int.toNat_zero, Nat.le_refl]
            all_goals rfl
        · rw [if_neg q4] at b3 ⊢
          simp (disch := first | exact cat_i _ | exact cat_r _ | exact cat_n | omega) only [e175, u175_0, u175_1, u175_2, u175_3, u175_5, u175_8, u175_11, u175_12, u175_13, u175_14, u175_15, u175_17, u175_20, u175_23, u175_24, u175_25, u175_26, u175_27, u175_29, u175_32, u175_35, hT_102, b1, n1, b2, n2, b3, c172n, if_pos, if_neg, ↓reduceIte, false_and, and_false, false_or, or_false, ite_not, decide_true, decide_false, Bool.true_eq_false, Bool.false_eq_true, decide_eq_true_eq, decide_eq_false_iff_not, hp_I, hp_sI, hp_N, ev_k_s, ev_k_n, true_and, and_true, true_or, or_true, not_true_eq_false, not_false_eq_true, if_true, if_false, ite_self, Option.some.injEq, exists_eq_left', nb_0, nb_1, nb_z, zI_t, zI_f, zI_e, cat_i, cat_r, cat_n, iI_add, iI_sub, iI_mul, iI_neg, iI_lt, iI_le, iI_eq, iI_idx, iI_inT, iI_ne0, ite_false, ite_true, iN_0, iN_1, Int.reduceAdd, Int.reduceSub, Int.reduceMul, Int.reduceNeg, Int.reduceDiv, Int.reduceMod, Int.reduceEq, Int.reduceLT, Int.reduceLE, Int.reduceToNat, Nat.reduceAdd, Nat.reduceSub, Nat.reduceMul, Nat.reduceLT, Nat.reduceLeDiff, Nat.reduceEqDiff, Int.cast_ofNat_Int, Std.le_refl, and_self, Int.toNat_natCast, Int.toNat_zero, Nat.le_refl]
          all_goals rfl
    · rw [if_neg q2] at b2 ⊢
      simp (disch := first | exact cat_i _ | exact cat_r _ | exact cat_n | omega) only [e175, u175_0, u175_1, u175_2, u175_3, u175_5, u175_8, u175_11, u175_12, u175_13, u175_14, u175_15, u175_17, u175_20, u175_23, u175_24, u175_25, u175_26, u175_27, u175_29, u175_32, u175_35, hT_102, b1, n1, b2, c173n, c172n, if_pos, if_neg, ↓reduceIte, false_and, and_false, false_or, or_false, ite_not, decide_true, decide_false, Bool.true_eq_false, Bool.false_eq_true, decide_eq_true_eq, decide_eq_false_iff_not, hp_I, hp_sI, hp_N, ev_k_s, ev_k_n, true_and, and_true, true_or, or_true, not_true_eq_false, not_false_eq_true, if_true, if_false, ite_self, Option.some.injEq, exists_eq_left', nb_0, nb_1, nb_z, zI_t, zI_f, zI_e, cat_i, cat_r, cat_n, iI_add, iI_sub, iI_mul, iI_neg, iI_lt, iI_le, iI_eq, iI_idx, iI_inT, iI_ne0, ite_false, ite_true, iN_0, iN_1, Int.reduceAdd, Int.reduceSub, Int.reduceMul, Int.reduceNeg, Int.reduceDiv, Int.reduceMod, Int.reduceEq, Int.reduceLT, Int.reduceLE, Int.reduceToNat, Nat.reduceAdd, Nat.reduceSub, Nat.reduceMul, Nat.reduceLT, Nat.reduceLeDiff, Nat.reduceEqDiff, Int.cast_ofNat_Int, Std.le_refl, and_self, Int.toNat_natCast, Int.toNat_zero, Nat.le_refl]
      all_goals rfl
theorem c176e {e : Nat} (hY : RepY I T) (hT : TV T) (he : 0 < e) (he2 : e < 200) (b f : Nat) {a1 : Value} : ev_w 176 28 [.ref 102, a1, .int (iI (e : Int))] [] (hp L σ I) Q = Q (some (.int (iI (match rdE T b f e with
  | .inl g => -1 - (g : Int)
  | .inr x => (x.2 : Int))))) (hp L σ I) := by
  have e1 := fun Q => c170 (L := L) (σ := σ) (Q := Q) hY hT (show e < 1000 by omega)
  have hb := sgM_in hT e
  obtain ⟨hb1, hb2⟩ := hb
  have he3 := sgM_eq (T := T) (p := e) (c := 61) (by omega)
  simp only [Int.cast_ofNat_Int] at he3
  unfold rdE
  by_cases q : sgn T e = 61
  · have q' : sgM T e = 61 := by rw [he3]; exact q
    have e175 := fun Q => c175 (L := L) (σ := σ) (Q := Q) hY hT he2 q
    rw [if_pos q]
    unfold rsV at e175
    cases hv : rdV T (e + 1) with
    | inl g =>
      rw [hv] at e175
      simp (disch := first | exact cat_i _ | exact cat_r _ | exact cat_n | omega) only [u176_28, u176_29, u176_32, u176_33, u176_34, u176_37, u176_39, u176_42, u176_43, u176_44, u176_47, u176_50, u176_51, hT_102, e1, q', e175, if_pos, if_neg, ↓reduceIte, false_and, and_false, false_or, or_false, ite_not, decide_true, decide_false, Bool.true_eq_false, Bool.false_eq_true, decide_eq_true_eq, decide_eq_false_iff_not, hp_I, hp_sI, hp_N, ev_k_s, ev_k_n, true_and, and_true, true_or, or_true, not_true_eq_false, not_false_eq_true, if_true, if_false, ite_self, Option.some.injEq, exists_eq_left', nb_0, nb_1, nb_z, zI_t, zI_f, zI_e, cat_i, cat_r, cat_n, iI_add, iI_sub, iI_mul, iI_neg, iI_lt, iI_le, iI_eq, iI_idx, iI_inT, iI_ne0, ite_false, ite_true, iN_0, iN_1, Int.reduceAdd, Int.reduceSub, Int.reduceMul, Int.reduceNeg, Int.reduceDiv, Int.reduceMod, Int.reduceEq, Int.reduceLT, Int.reduceLE, Int.reduceToNat, Nat.reduceAdd, Nat.reduceSub, Nat.reduceMul, Nat.reduceLT, Nat.reduceLeDiff, Nat.reduceEqDiff, Int.cast_ofNat_Int, Std.le_refl, and_self, Int.toNat_natCast, Int.toNat_zero, Nat.le_refl]
      all_goals rfl
    | inr v =>
      rw [hv] at e175
      simp (disch := first | exact cat_i _ | exact cat_r _ | exact cat_n | omega) only [u176_28, u176_29, u176_32, u176_33, u176_34, u176_37, u176_39, u176_42, u176_43, u176_44, u176_47, u176_50, u176_51, hT_102, e1, q', e175, if_pos, if_neg, ↓reduceIte, false_and, and_false, false_or, or_false, ite_not, decide_true, decide_false, Bool.true_eq_false, Bool.false_eq_true, decide_eq_true_eq, decide_eq_false_iff_not, hp_I, hp_sI, hp_N, ev_k_s, ev_k_n, true_and, and_true, true_or, or_true, not_true_eq_false, not_false_eq_true, if_true, if_false, ite_self, Option.some.injEq, exists_eq_left', nb_0, nb_1, nb_z, zI_t, zI_f, zI_e, cat_i, cat_r, cat_n, iI_add, iI_sub, iI_mul, iI_neg, iI_lt, iI_le, iI_eq, iI_idx, iI_inT, iI_ne0, ite_false, ite_true, iN_0, iN_1, Int.reduceAdd, Int.reduceSub, Int.reduceMul, Int.reduceNeg, Int.reduceDiv, Int.reduceMod, Int.reduceEq, Int.reduceLT, Int.reduceLE, Int.reduceToNat, Nat.reduceAdd, Nat.reduceSub, Nat.reduceMul, Nat.reduceLT, Nat.reduceLeDiff, Nat.reduceEqDiff, Int.cast_ofNat_Int, Std.le_refl, and_self, Int.toNat_natCast, Int.toNat_zero, Nat.le_refl]
      all_goals rfl
  · have q' : ¬ sgM T e = 61 := by rw [he3]; exact q
    rw [if_neg q]
    simp (disch := first | exact cat_i _ | exact cat_r _ | exact cat_n | omega) only [u176_28, u176_29, u176_32, u176_33, u176_34, u176_37, u176_39, u176_42, u176_43, u176_44, u176_47, u176_50, u176_51, hT_102, e1, if_pos, if_neg, ↓reduceIte, false_and, and_false, false_or, or_false, ite_not, decide_true, decide_false, Bool.true_eq_false, Bool.false_eq_true, decide_eq_true_eq, decide_eq_false_iff_not, hp_I, hp_sI, hp_N, ev_k_s, ev_k_n, true_and, and_true, true_or, or_true, not_true_eq_false, not_false_eq_true, if_true, if_false, ite_self, Option.some.injEq, exists_eq_left', nb_0, nb_1, nb_z, zI_t, zI_f, zI_e, cat_i, cat_r, cat_n, iI_add, iI_sub, iI_mul, iI_neg, iI_lt, iI_le, iI_eq, iI_idx, iI_inT, iI_ne0, ite_false, ite_true, iN_0, iN_1, Int.reduceAdd, Int.reduceSub, Int.reduceMul, Int.reduceNeg, Int.reduceDiv, Int.reduceMod, Int.reduceEq, Int.reduceLT, Int.reduceLE, Int.reduceToNat, Nat.reduceAdd, Nat.reduceSub, Nat.reduceMul, Nat.reduceLT, Nat.reduceLeDiff, Nat.reduceEqDiff, Int.cast_ofNat_Int, Std.le_refl, and_self, Int.toNat_natCast, Int.toNat_zero, Nat.le_refl]
    all_goals rfl
theorem c176 (hY : RepY I T) (hT : TV T) (hp' : p < 100) : ev_c 176 [.ref 102, .int (iI (p : Int))] (hp L σ I) Q = Q (some (.int (iI (rsC T p)))) (hp L σ I) := by
  have n1 := fun Q => c172 (L := L) (σ := σ) (Q := Q) hY hT (show p < 900 by omega)
  unfold rsC rdC
  unfold rsN at n1
  cases q1 : rdN T p with
  | none =>
    rw [q1] at n1
    simp (disch := first | exact cat_i _ | exact cat_r _ | exact cat_n | omega) only [e176, u176_0, u176_1, u176_2, u176_5, u176_6, u176_7, u176_10, u176_11, u176_12, u176_15, u176_17, u176_20, u176_21, u176_22, u176_23, u176_24, u176_27, u176_28, u176_29, u176_32, u176_33, u176_34, u176_37, u176_39, u176_42, u176_43, u176_44, u176_47, u176_50, u176_51, hT_102, n1, if_pos, if_neg, ↓reduceIte, false_and, and_false, false_or, or_false, ite_not, decide_true, decide_false, Bool.true_eq_false, Bool.false_eq_true, decide_eq_true_eq, decide_eq_false_iff_not, hp_I, hp_sI, hp_N, ev_k_s, ev_k_n, true_and, and_true, true_or, or_true, not_true_eq_false, not_false_eq_true, if_true, if_false, ite_self, Option.some.injEq, exists_eq_left', nb_0, nb_1, nb_z, zI_t, zI_f, zI_e, cat_i, cat_r, cat_n, iI_add, iI_sub, iI_mul, iI_neg, iI_lt, iI_le, iI_eq, iI_idx, iI_inT, iI_ne0, ite_false, ite_true, iN_0, iN_1, Int.reduceAdd, Int.reduceSub, Int.reduceMul, Int.reduceNeg, Int.reduceDiv, Int.reduceMod, Int.reduceEq, Int.reduceLT, Int.reduceLE, Int.reduceToNat, Nat.reduceAdd, Nat.reduceSub, Nat.reduceMul, Nat.reduceLT, Nat.reduceLeDiff, Nat.reduceEqDiff, Int.cast_ofNat_Int, Std.le_refl, and_self, Int.toNat_natCast, Int.toNat_zero, Nat.le_refl]
    all_goals rfl
  | some b =>
    have i1 := rdN_in q1
    rw [q1] at n1
    dsimp only at n1 ⊢
    have e1 := fun Q => c170 (L := L) (σ := σ) (Q := Q) hY hT (show b.2 < 1000 by omega)
    have hb := sgM_in hT b.2
    obtain ⟨hb1, hb2⟩ := hb
    have he3 := sgM_eq (T := T) (p := b.2) (c := 47) (by omega)
    simp only [Int.cast_ofNat_Int] at he3
    by_cases q : sgn T b.2 = 47
    · have q' : sgM T b.2 = 47 := by rw [he3]; exact q
      rw [if_pos q]
      have f1 := fun Q => c174 (L := L) (σ := σ) (Q := Q) hY hT (p := b.2 + 1) (by omega)
      have ep : ((b.2 + 1 : Nat) : Int) = (b.2 : Int) + 1 := by omega
      rw [ep] at f1
      unfold rsF at f1
      cases q2 : rdF T (b.2 + 1) with
      | none =>
        rw [q2] at f1
        simp (disch := first | exact cat_i _ | exact cat_r _ | exact cat_n | omega) only [e176, u176_0, u176_1, u176_2, u176_5, u176_6, u176_7, u176_10, u176_11, u176_12, u176_15, u176_17, u176_20, u176_21, u176_22, u176_23, u176_24, u176_27, u176_28, u176_29, u176_32, u176_33, u176_34, u176_37, u176_39, u176_42, u176_43, u176_44, u176_47, u176_50, u176_51, hT_102, n1, e1, q', f1, if_pos, if_neg, ↓reduceIte, false_and, and_false, false_or, or_false, ite_not, decide_true, decide_false, Bool.true_eq_false, Bool.false_eq_true, decide_eq_true_eq, decide_eq_false_iff_not, hp_I, hp_sI, hp_N, ev_k_s, ev_k_n, true_and, and_true, true_or, or_true, not_true_eq_false, not_false_eq_true, if_true, if_false, ite_self, Option.some.injEq, exists_eq_left', nb_0, nb_1, nb_z, zI_t, zI_f, zI_e, cat_i, cat_r, cat_n, iI_add, iI_sub, iI_mul, iI_neg, iI_lt, iI_le, iI_eq, iI_idx, iI_inT, iI_ne0, ite_false, ite_true, iN_0, iN_1, Int.reduceAdd, Int.reduceSub, Int.reduceMul, Int.reduceNeg, Int.reduceDiv, Int.reduceMod, Int.reduceEq, Int.reduceLT, Int.reduceLE, Int.reduceToNat, Nat.reduceAdd, Nat.reduceSub, Nat.reduceMul, Nat.reduceLT, Nat.reduceLeDiff, Nat.reduceEqDiff, Int.cast_ofNat_Int, Std.le_refl, and_self, Int.toNat_natCast, Int.toNat_zero, Nat.le_refl]
        all_goals rfl
      | some g =>
        have i2 := rdF_in q2
        rw [q2] at f1
        dsimp only at f1 ⊢
        refine Eq.trans ?_ (c176e (L := L) (σ := σ) (Q := Q) hY hT (e := g.2) (by omega) (by omega) b.1 g.1 (a1 := .int (iI (p : Int))))
        simp (disch := first | exact cat_i _ | exact cat_r _ | exact cat_n | omega) only [u176_0, u176_1, u176_2, u176_5, u176_6, u176_7, u176_10, u176_11, u176_12, u176_15, u176_17, u176_20, u176_21, u176_22, u176_23, u176_24, u176_27, e176, hT_102, n1, e1, q', f1, if_pos, if_neg, ↓reduceIte, false_and, and_false, false_or, or_false, ite_not, decide_true, decide_false, Bool.true_eq_false, Bool.false_eq_true, decide_eq_true_eq, decide_eq_false_iff_not, hp_I, hp_sI, hp_N, ev_k_s, ev_k_n, true_and, and_true, true_or, or_true, not_true_eq_false, not_false_eq_true, if_true, if_false, ite_self, Option.some.injEq, exists_eq_left', nb_0, nb_1, nb_z, zI_t, zI_f, zI_e, cat_i, cat_r, cat_n, iI_add, iI_sub, iI_mul, iI_neg, iI_lt, iI_le, iI_eq, iI_idx, iI_inT, iI_ne0, ite_false, ite_true, iN_0, iN_1, Int.reduceAdd, Int.reduceSub, Int.reduceMul, Int.reduceNeg, Int.reduceDiv, Int.reduceMod, Int.reduceEq, Int.reduceLT, Int.reduceLE, Int.reduceToNat, Nat.reduceAdd, Nat.reduceSub, Nat.reduceMul, Nat.reduceLT, Nat.reduceLeDiff, Nat.reduceEqDiff, Int.cast_ofNat_Int, Std.le_refl, and_self, Int.toNat_natCast, Int.toNat_zero, Nat.le_refl]
    · have q' : ¬ sgM T b.2 = 47 := by rw [he3]; exact q
      rw [if_neg q]
      refine Eq.trans ?_ (c176e (L := L) (σ := σ) (Q := Q) hY hT (e := b.2) (by omega) (by omega) b.1 5 (a1 := .int (iI (p : Int))))
      simp (disch := first | exact cat_i _ | exact cat_r _ | exact cat_n | omega) only [u176_0, u176_1, u176_2, u176_5, u176_6, u176_7, u176_10, u176_11, u176_12, u176_15, u176_17, u176_20, u176_21, u176_22, u176_23, u176_24, u176_27, e176, hT_102, n1, e1, if_pos, if_neg, ↓reduceIte, false_and, and_false, false_or, or_false, ite_not, decide_true, decide_false, Bool.true_eq_false, Bool.false_eq_true, decide_eq_true_eq, decide_eq_false_iff_not, hp_I, hp_sI, hp_N, ev_k_s, ev_k_n, true_and, and_true, true_or, or_true, not_true_eq_false, not_false_eq_true, if_true, if_false, ite_self, Option.some.injEq, exists_eq_left', nb_0, nb_1, nb_z, zI_t, zI_f, zI_e, cat_i, cat_r, cat_n, iI_add, iI_sub, iI_mul, iI_neg, iI_lt, iI_le, iI_eq, iI_idx, iI_inT, iI_ne0, ite_false, ite_true, iN_0, iN_1, Int.reduceAdd, Int.reduceSub, Int.reduceMul, Int.reduceNeg, Int.reduceDiv, Int.reduceMod, Int.reduceEq, Int.reduceLT, Int.reduceLE, Int.reduceToNat, Nat.reduceAdd, Nat.reduceSub, Nat.reduceMul, Nat.reduceLT, Nat.reduceLeDiff, Nat.reduceEqDiff, Int.cast_ofNat_Int, Std.le_refl, and_self, Int.toNat_natCast, Int.toNat_zero, Nat.le_refl]
end MTX
