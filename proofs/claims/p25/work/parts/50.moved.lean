/-! isMoved, isRealised -/
section MB
variable {S : Co} {z : Int} {c k : Nat} {v w p : Nat × Nat × Nat}
theorem mv_n (h : c < S.2.length) (e : (ch S c).2.2 = none) : (ch (mov S z) c).2.2 = none := by
  rw [ch_mov h]
  unfold mvc
  rw [e]
  rfl
theorem mv_s (h : c < S.2.length) (e : (ch S c).2.2 = some v) : (ch (mov S z) c).2.2 = some (mvv z v) := by
  rw [ch_mov h]
  unfold mvc
  rw [e]
  rfl
theorem mv_b (h : c < S.2.length) : (ch (mov S z) c).1 = (((ch S c).1 : Int) + z).toNat := by
  rw [ch_mov h]
  rfl
theorem dst_mv (h1 : (0 ≤ (v.1 : Int) + z ∧ (v.1 : Int) + z ≤ 99) ∧ (0 ≤ (v.2.1 : Int) + z ∧ (v.2.1 : Int) + z ≤ 99) ∧ (0 ≤ (v.2.2 : Int) + z ∧ (v.2.2 : Int) + z ≤ 99)) (h2 : (0 ≤ (w.1 : Int) + z ∧ (w.1 : Int) + z ≤ 99) ∧ (0 ≤ (w.2.1 : Int) + z ∧ (w.2.1 : Int) + z ≤ 99) ∧ (0 ≤ (w.2.2 : Int) + z ∧ (w.2.2 : Int) + z ≤ 99)) : dst (mvv z v) (mvv z w) = dst v w := by
  unfold dst mvv
  dsimp only
  omega
theorem cst_mv (hm : mvo S z = true) (h : c < S.2.length) : cst (mov S z) c = cst S c := by
  cases c with
  | zero => rfl
  | succ k =>
    have hk : k < S.2.length := by omega
    cases e1 : (ch S k).2.2 with
    | none =>
      have r1 : pre S (k + 1) = none := e1
      have r2 : pre (mov S z) (k + 1) = none := mv_n hk e1
      rw [cst_0 (Or.inr r1), cst_0 (Or.inr r2)]
    | some p =>
      cases e2 : (ch S (k + 1)).2.2 with
      | none => rw [cst_0 (S := S) (Or.inl e2), cst_0 (S := mov S z) (Or.inl (mv_n h e2))]
      | some v =>
        have r1 : pre S (k + 1) = some p := e1
        have r2 : pre (mov S z) (k + 1) = some (mvv z p) := mv_s hk e1
        rw [cst_v (S := S) e2 r1, cst_v (mv_s h e2) r2]
        exact dst_mv (mvk_v (mvo_k hm hk) e1) (mvk_v (mvo_k hm h) e2)
theorem cstA_mv (hm : mvo S z = true) : cstA (mov S z) = cstA S := by
  unfold cstA
  rw [len_mov]
  exact fold_e _ fun c hc => cst_mv hm hc
theorem mvo_back (hv : VS S) (hm : mvo S z = true) : mvo (mov S z) (-z) = true := by
  unfold mvo
  rw [List.all_eq_true]
  intro k hk
  have hk := List.mem_range.mp hk
  rw [len_mov] at hk
  have h2 := hv.2.2.2.2 k hk
  have hb := mvk_b (mvo_k hm hk)
  unfold mvk
  rw [Bool.and_eq_true, mv_b hk]
  have hb1 := h2.1
  have hb2 := h2.2.1
  refine ⟨decide_eq_true (by omega), ?_⟩
  cases e : (ch S k).2.2 with
  | none => rw [mv_n hk e]
  | some v =>
    rw [mv_s hk e]
    obtain ⟨a1, a2, a3⟩ := mvk_v (mvo_k hm hk) e
    obtain ⟨b1, b2, b3⟩ := h2.2.2.2 v e
    refine decide_eq_true ?_
    unfold mvv
    dsimp only
    omega
theorem key_mv (hv : VS S) (hz : -12 ≤ z ∧ z ≤ 12) : (((mov (mov S z) (-z)).1.1 : Nat) : Int) = (S.1.1 : Int) := by
  have hk := hv.1
  show ((((((((S.1.1 : Int) + z) % 12).toNat : Nat) : Int) + -z) % 12).toNat : Int) = _
  omega
theorem pus_x (H : List Co) (S : Co) (h : H.length ≤ 6) : ∃ X : List Co, pus H S = X ++ [S] ∧ X.length ≤ 6 := by
  unfold pus
  refine ⟨_, rfl, ?_⟩
  split
  · rw [List.length_drop]; omega
  · exact h
theorem undo_x {A : AS} {X : List Co} {S : Co} (h : A.2.1 = X ++ [S]) : opUndo A = ((X.length : Int), (S, X, A.2.2)) := by
  unfold opUndo
  rw [h, List.length_append, List.length_singleton, if_neg (by omega), List.dropLast_concat, List.getD_eq_getElem?_getD, Nat.add_sub_cancel, List.getElem?_append_right (Nat.le_refl _), Nat.sub_self]
  refine Prod.ext ?_ rfl
  show ((X.length + 1 : Nat) : Int) - 1 = _
  omega
end MB
section MM
variable {L : Nat} {A : AS} {S : Co} {K : (Option Value → fb_H → Prop) → Option Value → fb_H → Prop} {Q : Option Value → fb_H → Prop} {h : fb_H} {k c : Nat} {z : Int}
theorem k122 (hz : -12 ≤ z ∧ z ≤ 12) (hK : ∀ A' : AS, RW L A' (fun σ I Q => K Q (some (.int (iI 1))) (hp L σ I))) : RW L A (fun σ I Q => ev_c 122 [.ref 0, .int (iI z)] (hp L σ I) (K Q)) := by
  refine rw_v fun hv _ _ => ?_
  have hl := hv.2.2.2.1
  have hk := hv.1
  have ho := fun h : 0 < A.1.2.length => of_0 (A := A) (c := 0) h
  obtain ⟨f0, hf0, hf1⟩ : ∃ f0 : Int, (0 ≤ f0 ∧ f0 ≤ 59) ∧ f0 = if A.1.2.length = 0 then 0 else ((ch A.1 0).1 : Int) := by
    refine ⟨_, ?_, rfl⟩
    split
    · omega
    · have := (hv.2.2.2.2 0 (by omega)).2.1
      omega
  have beg : ∀ (hC : RW L A (fun σ I Q => ev_w 122 30 [.ref 0, .int (iI z), .int (iI (A.1.1.1 : Int)), .int (iI (cstA A.1 : Int)), .null, .null, .null] [.int (iI f0)] (hp L σ I) (K Q))), RW L A (fun σ I Q => ev_c 122 [.ref 0, .int (iI z)] (hp L σ I) (K Q)) := fun hC => by
    simp (disch := first | exact cat_i _ | exact cat_r _ | exact cat_n | omega) only [u122_0, u122_1, u122_2, e122, hT_0, if_pos, if_neg, ↓reduceIte, false_and, and_false, false_or, or_false, ite_not, decide_true, decide_false, Bool.true_eq_false, Bool.false_eq_true, decide_eq_true_eq, decide_eq_false_iff_not, hp_I, hp_sI, hp_N, ev_k_s, ev_k_n, true_and, and_true, true_or, or_true, not_true_eq_false, not_false_eq_true, if_true, if_false, ite_self, Option.some.injEq, exists_eq_left', nb_0, nb_1, nb_z, zI_t, zI_f, zI_e, cat_i, cat_r, cat_n, iI_add, iI_sub, iI_mul, iI_neg, iI_lt, iI_le, iI_eq, iI_idx, iI_inT, iI_ne0, ite_false, ite_true, iN_0, iN_1, Int.reduceAdd, Int.reduceSub, Int.reduceMul, Int.reduceNeg, Int.reduceDiv, Int.reduceMod, Int.reduceEq, Int.reduceLT, Int.reduceLE, Int.reduceToNat, Nat.reduceAdd, Nat.reduceSub, Nat.reduceMul, Nat.reduceLT, Nat.reduceLeDiff, Nat.reduceEqDiff, Int.cast_ofNat_Int, Std.le_refl, and_self, Int.toNat_natCast, Int.toNat_zero, Nat.le_refl]
    refine k89 ct_5 (by omega) ?_
    simp (disch := first | exact cat_i _ | exact cat_r _ | exact cat_n | omega) only [u122_5, u122_6, u122_7, u122_8, hT_0, if_pos, if_neg, ↓reduceIte, false_and, and_false, false_or, or_false, ite_not, decide_true, decide_false, Bool.true_eq_false, Bool.false_eq_true, decide_eq_true_eq, decide_eq_false_iff_not, hp_I, hp_sI, hp_N, ev_k_s, ev_k_n, true_and, and_true, true_or, or_true, not_true_eq_false, not_false_eq_true, if_true, if_false, ite_self, Option.some.injEq, exists_eq_left', nb_0, nb_1, nb_z, zI_t, zI_f, zI_e, cat_i, cat_r, cat_n, iI_add, iI_sub, iI_mul, iI_neg, iI_lt, iI_le, iI_eq, iI_idx, iI_inT, iI_ne0, ite_false, ite_true, iN_0, iN_1, Int.reduceAdd, Int.reduceSub, Int.reduceMul, Int.reduceNeg, Int.reduceDiv, Int.reduceMod, Int.reduceEq, Int.reduceLT, Int.reduceLE, Int.reduceToNat, Nat.reduceAdd, Nat.reduceSub, Nat.reduceMul, Nat.reduceLT, Nat.reduceLeDiff, Nat.reduceEqDiff, Int.cast_ofNat_Int, Std.le_refl, and_self, Int.toNat_natCast, Int.toNat_zero, Nat.le_refl]
    refine k89 ct_4 (by omega) ?_
    simp (disch := first | exact cat_i _ | exact cat_r _ | exact cat_n | omega) only [u122_11, u122_12, u122_13, u122_14, hT_0, if_pos, if_neg, ↓reduceIte, false_and, and_false, false_or, or_false, ite_not, decide_true, decide_false, Bool.true_eq_false, Bool.false_eq_true, decide_eq_true_eq, decide_eq_false_iff_not, hp_I, hp_sI, hp_N, ev_k_s, ev_k_n, true_and, and_true, true_or, or_true, not_true_eq_false, not_false_eq_true, if_true, if_false, ite_self, Option.some.injEq, exists_eq_left', nb_0, nb_1, nb_z, zI_t, zI_f, zI_e, cat_i, cat_r, cat_n, iI_add, iI_sub, iI_mul, iI_neg, iI_lt, iI_le, iI_eq, iI_idx, iI_inT, iI_ne0, ite_false, ite_true, iN_0, iN_1, Int.reduceAdd, Int.reduceSub, Int.reduceMul, Int.reduceNeg, Int.reduceDiv, Int.reduceMod, Int.reduceEq, Int.reduceLT, Int.reduceLE, Int.reduceToNat, Nat.reduceAdd, Nat.reduceSub, Nat.reduceMul, Nat.reduceLT, Nat.reduceLeDiff, Nat.reduceEqDiff, Int.cast_ofNat_Int, Std.le_refl, and_self, Int.toNat_natCast, Int.toNat_zero, Nat.le_refl]
    refine k89 ct_0 (by omega) ?_
    by_cases q : A.1.2.length = 0
    · rw [if_pos q] at hf1
      subst hf1
      rw [q]
      simp (disch := first | exact cat_i _ | exact cat_r _ | exact cat_n | omega) only [u122_17, u122_20, u122_21, hT_0, Int.natCast_zero, if_pos, if_neg, ↓reduceIte, false_and, and_false, false_or, or_false, ite_not, decide_true, decide_false, Bool.true_eq_false, Bool.false_eq_true, decide_eq_true_eq, decide_eq_false_iff_not, hp_I, hp_sI, hp_N, ev_k_s, ev_k_n, true_and, and_true, true_or, or_true, not_true_eq_false, not_false_eq_true, if_true, if_false, ite_self, Option.some.injEq, exists_eq_left', nb_0, nb_1, nb_z, zI_t, zI_f, zI_e, cat_i, cat_r, cat_n, iI_add, iI_sub, iI_mul, iI_neg, iI_lt, iI_le, iI_eq, iI_idx, iI_inT, iI_ne0, ite_false, ite_true, iN_0, iN_1, Int.reduceAdd, Int.reduceSub, Int.reduceMul, Int.reduceNeg, Int.reduceDiv, Int.reduceMod, Int.reduceEq, Int.reduceLT, Int.reduceLE, Int.reduceToNat, Nat.reduceAdd, Nat.reduceSub, Nat.reduceMul, Nat.reduceLT, Nat.reduceLeDiff, Nat.reduceEqDiff, Int.cast_ofNat_Int, Std.le_refl, and_self, Int.toNat_natCast, Int.toNat_zero, Nat.le_refl]
      exact hC
    · rw [if_neg q] at hf1
      subst hf1
      simp (disch := first | exact cat_i _ | exact cat_r _ | exact cat_n | omega) only [u122_17, u122_24, u122_25, u122_26, u122_27, hT_0, if_pos, if_neg, ↓reduceIte, false_and, and_false, false_or, or_false, ite_not, decide_true, decide_false, Bool.true_eq_false, Bool.false_eq_true, decide_eq_true_eq, decide_eq_false_iff_not, hp_I, hp_sI, hp_N, ev_k_s, ev_k_n, true_and, and_true, true_or, or_true, not_true_eq_false, not_false_eq_true, if_true, if_false, ite_self, Option.some.injEq, exists_eq_left', nb_0, nb_1, nb_z, zI_t, zI_f, zI_e, cat_i, cat_r, cat_n, iI_add, iI_sub, iI_mul, iI_neg, iI_lt, iI_le, iI_eq, iI_idx, iI_inT, iI_ne0, ite_false, ite_true, iN_0, iN_1, Int.reduceAdd, Int.reduceSub, Int.reduceMul, Int.reduceNeg, Int.reduceDiv, Int.reduceMod, Int.reduceEq, Int.reduceLT, Int.reduceLE, Int.reduceToNat, Nat.reduceAdd, Nat.reduceSub, Nat.reduceMul, Nat.reduceLT, Nat.reduceLeDiff, Nat.reduceEqDiff, Int.cast_ofNat_Int, Std.le_refl, and_self, Int.toNat_natCast, Int.toNat_zero, Nat.le_refl]
      refine k87 (ho (by omega)) (by omega) (by omega) ?_
      simp only [ev_k_s]
      exact hC
  refine beg ?_
  simp (disch := first | exact cat_i _ | exact cat_r _ | exact cat_n | omega) only [u122_30, u122_32, u122_33, u122_34, hT_0, if_pos, if_neg, ↓reduceIte, false_and, and_false, false_or, or_false, ite_not, decide_true, decide_false, Bool.true_eq_false, Bool.false_eq_true, decide_eq_true_eq, decide_eq_false_iff_not, hp_I, hp_sI, hp_N, ev_k_s, ev_k_n, true_and, and_true, true_or, or_true, not_true_eq_false, not_false_eq_true, if_true, if_false, ite_self, Option.some.injEq, exists_eq_left', nb_0, nb_1, nb_z, zI_t, zI_f, zI_e, cat_i, cat_r, cat_n, iI_add, iI_sub, iI_mul, iI_neg, iI_lt, iI_le, iI_eq, iI_idx, iI_inT, iI_ne0, ite_false, ite_true, iN_0, iN_1, Int.reduceAdd, Int.reduceSub, Int.reduceMul, Int.reduceNeg, Int.reduceDiv, Int.reduceMod, Int.reduceEq, Int.reduceLT, Int.reduceLE, Int.reduceToNat, Nat.reduceAdd, Nat.reduceSub, Nat.reduceMul, Nat.reduceLT, Nat.reduceLeDiff, Nat.reduceEqDiff, Int.cast_ofNat_Int, Std.le_refl, and_self, Int.toNat_natCast, Int.toNat_zero, Nat.le_refl]
  cases hm : mvo A.1 z with
  | false =>
    have et : opTr A z = (-5, A) := by
      unfold opTr
      rw [if_neg (by omega), if_neg (by rw [hm]; decide)]
    refine k84 et (by omega) ?_
    simp (disch := first | exact cat_i _ | exact cat_r _ | exact cat_n | omega) only [u122_37, u122_39, u122_41, u122_43, u122_46, u122_47, u122_48, hT_0, if_pos, if_neg, ↓reduceIte, false_and, and_false, false_or, or_false, ite_not, decide_true, decide_false, Bool.true_eq_false, Bool.false_eq_true, decide_eq_true_eq, decide_eq_false_iff_not, hp_I, hp_sI, hp_N, ev_k_s, ev_k_n, true_and, and_true, true_or, or_true, not_true_eq_false, not_false_eq_true, if_true, if_false, ite_self, Option.some.injEq, exists_eq_left', nb_0, nb_1, nb_z, zI_t, zI_f, zI_e, cat_i, cat_r, cat_n, iI_add, iI_sub, iI_mul, iI_neg, iI_lt, iI_le, iI_eq, iI_idx, iI_inT, iI_ne0, ite_false, ite_true, iN_0, iN_1, Int.reduceAdd, Int.reduceSub, Int.reduceMul, Int.reduceNeg, Int.reduceDiv, Int.reduceMod, Int.reduceEq, Int.reduceLT, Int.reduceLE, Int.reduceToNat, Nat.reduceAdd, Nat.reduceSub, Nat.reduceMul, Nat.reduceLT, Nat.reduceLeDiff, Nat.reduceEqDiff, Int.cast_ofNat_Int, Std.le_refl, and_self, Int.toNat_natCast, Int.toNat_zero, Nat.le_refl]
    refine k89 ct_5 (by omega) ?_
    simp (disch := first | exact cat_i _ | exact cat_r _ | exact cat_n | omega) only [u122_51, u122_52, u122_55, u122_56, u122_59, u122_60, hT_0, if_pos, if_neg, ↓reduceIte, false_and, and_false, false_or, or_false, ite_not, decide_true, decide_false, Bool.true_eq_false, Bool.false_eq_true, decide_eq_true_eq, decide_eq_false_iff_not, hp_I, hp_sI, hp_N, ev_k_s, ev_k_n, true_and, and_true, true_or, or_true, not_true_eq_false, not_false_eq_true, if_true, if_false, ite_self, Option.some.injEq, exists_eq_left', nb_0, nb_1, nb_z, zI_t, zI_f, zI_e, cat_i, cat_r, cat_n, iI_add, iI_sub, iI_mul, iI_neg, iI_lt, iI_le, iI_eq, iI_idx, iI_inT, iI_ne0, ite_false, ite_true, iN_0, iN_1, Int.reduceAdd, Int.reduceSub, Int.reduceMul, Int.reduceNeg, Int.reduceDiv, Int.reduceMod, Int.reduceEq, Int.reduceLT, Int.reduceLE, Int.reduceToNat, Nat.reduceAdd, Nat.reduceSub, Nat.reduceMul, Nat.reduceLT, Nat.reduceLeDiff, Nat.reduceEqDiff, Int.cast_ofNat_Int, Std.le_refl, and_self, Int.toNat_natCast, Int.toNat_zero, Nat.le_refl]
    exact hK _
  | true =>
    have et : opTr A z = ((((mov A.1 z).1.1 : Nat) : Int), (mov A.1 z, pus A.2.1 A.1, A.2.2)) := by
      unfold opTr
      rw [if_neg (by omega), if_pos hm]
    have ev : (((mov A.1 z).1.1 : Nat) : Int) = ((A.1.1.1 : Int) + z) % 12 := by
      show ((((A.1.1.1 : Int) + z) % 12).toNat : Int) = _
      omega
    have eu : ((A.1.1.1 : Int) + z + 12) % 12 = ((A.1.1.1 : Int) + z) % 12 := by omega
    have c4 : opCount (mov A.1 z, pus A.2.1 A.1, A.2.2) 4 = (cstA A.1 : Int) := by
      rw [ct_4, cstA_mv hm]
    have c0 : opCount (mov A.1 z, pus A.2.1 A.1, A.2.2) 0 = (A.1.2.length : Int) := by
      rw [ct_0, len_mov]
    have et2 : opTr (mov A.1 z, pus A.2.1 A.1, A.2.2) (-z) = ((A.1.1.1 : Int), (mov (mov A.1 z) (-z), pus (pus A.2.1 A.1) (mov A.1 z), A.2.2)) := by
      unfold opTr
      rw [if_neg (by omega), if_pos (mvo_back hv hm)]
      dsimp only
      rw [key_mv hv hz]
    have c42 : opCount (mov (mov A.1 z) (-z), pus (pus A.2.1 A.1) (mov A.1 z), A.2.2) 4 = (cstA A.1 : Int) := by
      rw [ct_4, cstA_mv (mvo_back hv hm), cstA_mv hm]
    refine k84 et (by omega) ?_
    rw [ev]
    have fin : RW L (mov A.1 z, pus A.2.1 A.1, A.2.2) (fun σ I Q => ev_w 122 110 [.ref 0, .int (iI z), .int (iI (A.1.1.1 : Int)), .int (iI (cstA A.1 : Int)), .int (iI f0), .int (iI (((A.1.1.1 : Int) + z) % 12)), .null] [.int (iI 1)] (hp L σ I) (K Q)) := by
      simp (disch := first | exact cat_i _ | exact cat_r _ | exact cat_n | omega) only [u122_110, u122_112, u122_114, u122_117, u122_118, u122_119, u122_120, hT_0, if_pos, if_neg, ↓reduceIte, false_and, and_false, false_or, or_false, ite_not, decide_true, decide_false, Bool.true_eq_false, Bool.false_eq_true, decide_eq_true_eq, decide_eq_false_iff_not, hp_I, hp_sI, hp_N, ev_k_s, ev_k_n, true_and, and_true, true_or, or_true, not_true_eq_false, not_false_eq_true, if_true, if_false, ite_self, Option.some.injEq, exists_eq_left', nb_0, nb_1, nb_z, zI_t, zI_f, zI_e, cat_i, cat_r, cat_n, iI_add, iI_sub, iI_mul, iI_neg, iI_lt, iI_le, iI_eq, iI_idx, iI_inT, iI_ne0, ite_false, ite_true, iN_0, iN_1, Int.reduceAdd, Int.reduceSub, Int.reduceMul, Int.reduceNeg, Int.reduceDiv, Int.reduceMod, Int.reduceEq, Int.reduceLT, Int.reduceLE, Int.reduceToNat, Nat.reduceAdd, Nat.reduceSub, Nat.reduceMul, Nat.reduceLT, Nat.reduceLeDiff, Nat.reduceEqDiff, Int.cast_ofNat_Int, Std.le_refl, and_self, Int.toNat_natCast, Int.toNat_zero, Nat.le_refl]
      refine k84 et2 (by omega) ?_
      simp (disch := first | exact cat_i _ | exact cat_r _ | exact cat_n | omega) only [u122_123, u122_124, u122_127, u122_128, u122_129, hT_0, if_pos, if_neg, ↓reduceIte, false_and, and_false, false_or, or_false, ite_not, decide_true, decide_false, Bool.true_eq_false, Bool.false_eq_true, decide_eq_true_eq, decide_eq_false_iff_not, hp_I, hp_sI, hp_N, ev_k_s, ev_k_n, true_and, and_true, true_or, or_true, not_true_eq_false, not_false_eq_true, if_true, if_false, ite_self, Option.some.injEq, exists_eq_left', nb_0, nb_1, nb_z, zI_t, zI_f, zI_e, cat_i, cat_r, cat_n, iI_add, iI_sub, iI_mul, iI_neg, iI_lt, iI_le, iI_eq, iI_idx, iI_inT, iI_ne0, ite_false, ite_true, iN_0, iN_1, Int.reduceAdd, Int.reduceSub, Int.reduceMul, Int.reduceNeg, Int.reduceDiv, Int.reduceMod, Int.reduceEq, Int.reduceLT, Int.reduceLE, Int.reduceToNat, Nat.reduceAdd, Nat.reduceSub, Nat.reduceMul, Nat.reduceLT, Nat.reduceLeDiff, Nat.reduceEqDiff, Int.cast_ofNat_Int, Std.le_refl, and_self, Int.toNat_natCast, Int.toNat_zero, Nat.le_refl]
      refine k89 c42 (by omega) ?_
      simp (disch := first | exact cat_i _ | exact cat_r _ | exact cat_n | omega) only [u122_132, u122_133, u122_136, u122_137, u122_140, u122_141, hT_0, if_pos, if_neg, ↓reduceIte, false_and, and_false, false_or, or_false, ite_not, decide_true, decide_false, Bool.true_eq_false, Bool.false_eq_true, decide_eq_true_eq, decide_eq_false_iff_not, hp_I, hp_sI, hp_N, ev_k_s, ev_k_n, true_and, and_true, true_or, or_true, not_true_eq_false, not_false_eq_true, if_true, if_false, ite_self, Option.some.injEq, exists_eq_left', nb_0, nb_1, nb_z, zI_t, zI_f, zI_e, cat_i, cat_r, cat_n, iI_add, iI_sub, iI_mul, iI_neg, iI_lt, iI_le, iI_eq, iI_idx, iI_inT, iI_ne0, ite_false, ite_true, iN_0, iN_1, Int.reduceAdd, Int.reduceSub, Int.reduceMul, Int.reduceNeg, Int.reduceDiv, Int.reduceMod, Int.reduceEq, Int.reduceLT, Int.reduceLE, Int.reduceToNat, Nat.reduceAdd, Nat.reduceSub, Nat.reduceMul, Nat.reduceLT, Nat.reduceLeDiff, Nat.reduceEqDiff, Int.cast_ofNat_Int, Std.le_refl, and_self, Int.toNat_natCast, Int.toNat_zero, Nat.le_refl]
      exact hK _
    simp (disch := first | exact cat_i _ | exact cat_r _ | exact cat_n | omega) only [u122_37, u122_39, u122_41, u122_43, u122_61, u122_63, u122_64, u122_65, u122_66, u122_68, u122_69, u122_71, u122_72, u122_75, u122_76, u122_77, hT_0, iI_rem, eu, if_pos, if_neg, ↓reduceIte, false_and, and_false, false_or, or_false, ite_not, decide_true, decide_false, Bool.true_eq_false, Bool.false_eq_true, decide_eq_true_eq, decide_eq_false_iff_not, hp_I, hp_sI, hp_N, ev_k_s, ev_k_n, true_and, and_true, true_or, or_true, not_true_eq_false, not_false_eq_true, if_true, if_false, ite_self, Option.some.injEq, exists_eq_left', nb_0, nb_1, nb_z, zI_t, zI_f, zI_e, cat_i, cat_r, cat_n, iI_add, iI_sub, iI_mul, iI_neg, iI_lt, iI_le, iI_eq, iI_idx, iI_inT, iI_ne0, ite_false, ite_true, iN_0, iN_1, Int.reduceAdd, Int.reduceSub, Int.reduceMul, Int.reduceNeg, Int.reduceDiv, Int.reduceMod, Int.reduceEq, Int.reduceLT, Int.reduceLE, Int.reduceToNat, Nat.reduceAdd, Nat.reduceSub, Nat.reduceMul, Nat.reduceLT, Nat.reduceLeDiff, Nat.reduceEqDiff, Int.cast_ofNat_Int, Std.le_refl, and_self, Int.toNat_natCast, Int.toNat_zero, Nat.le_refl]
    refine k89 c4 (by omega) ?_
    simp (disch := first | exact cat_i _ | exact cat_r _ | exact cat_n | omega) only [u122_80, u122_81, u122_84, u122_85, u122_86, hT_0, if_pos, if_neg, ↓reduceIte, false_and, and_false, false_or, or_false, ite_not, decide_true, decide_false, Bool.true_eq_false, Bool.false_eq_true, decide_eq_true_eq, decide_eq_false_iff_not, hp_I, hp_sI, hp_N, ev_k_s, ev_k_n, true_and, and_true, true_or, or_true, not_true_eq_false, not_false_eq_true, if_true, if_false, ite_self, Option.some.injEq, exists_eq_left', nb_0, nb_1, nb_z, zI_t, zI_f, zI_e, cat_i, cat_r, cat_n, iI_add, iI_sub, iI_mul, iI_neg, iI_lt, iI_le, iI_eq, iI_idx, iI_inT, iI_ne0, ite_false, ite_true, iN_0, iN_1, Int.reduceAdd, Int.reduceSub, Int.reduceMul, Int.reduceNeg, Int.reduceDiv, Int.reduceMod, Int.reduceEq, Int.reduceLT, Int.reduceLE, Int.reduceToNat, Nat.reduceAdd, Nat.reduceSub, Nat.reduceMul, Nat.reduceLT, Nat.reduceLeDiff, Nat.reduceEqDiff, Int.cast_ofNat_Int, Std.le_refl, and_self, Int.toNat_natCast, Int.toNat_zero, Nat.le_refl]
    refine k89 c0 (by omega) ?_
    by_cases q : A.1.2.length = 0
    · rw [q]
      simp (disch := first | exact cat_i _ | exact cat_r _ | exact cat_n | omega) only [u122_89, u122_105, u122_106, hT_0, Int.natCast_zero, if_pos, if_neg, ↓reduceIte, false_and, and_false, false_or, or_false, ite_not, decide_true, decide_false, Bool.true_eq_false, Bool.false_eq_true, decide_eq_true_eq, decide_eq_false_iff_not, hp_I, hp_sI, hp_N, ev_k_s, ev_k_n, true_and, and_true, true_or, or_true, not_true_eq_false, not_false_eq_true, if_true, if_false, ite_self, Option.some.injEq, exists_eq_left', nb_0, nb_1, nb_z, zI_t, zI_f, zI_e, cat_i, cat_r, cat_n, iI_add, iI_sub, iI_mul, iI_neg, iI_lt, iI_le, iI_eq, iI_idx, iI_inT, iI_ne0, ite_false, ite_true, iN_0, iN_1, Int.reduceAdd, Int.reduceSub, Int.reduceMul, Int.reduceNeg, Int.reduceDiv, Int.reduceMod, Int.reduceEq, Int.reduceLT, Int.reduceLE, Int.reduceToNat, Nat.reduceAdd, Nat.reduceSub, Nat.reduceMul, Nat.reduceLT, Nat.reduceLeDiff, Nat.reduceEqDiff, Int.cast_ofNat_Int, Std.le_refl, and_self, Int.toNat_natCast, Int.toNat_zero, Nat.le_refl]
      exact fin
    · have hb := mvk_b (mvo_k hm (show 0 < A.1.2.length by omega))
      rw [if_neg q] at hf1
      have o0 : opOf (mov A.1 z, pus A.2.1 A.1, A.2.2) (0 : Int) 0 = f0 + z := by
        have g := of_0 (A := (mov A.1 z, pus A.2.1 A.1, A.2.2)) (c := 0) (by show 0 < (mov A.1 z).2.length; rw [len_mov]; omega)
        refine g.trans ?_
        show (((ch (mov A.1 z) 0).1 : Nat) : Int) = _
        rw [mv_b (by omega)]
        omega
      simp (disch := first | exact cat_i _ | exact cat_r _ | exact cat_n | omega) only [u122_89, u122_92, u122_93, u122_94, u122_95, hT_0, if_pos, if_neg, ↓reduceIte, false_and, and_false, false_or, or_false, ite_not, decide_true, decide_false, Bool.true_eq_false, Bool.false_eq_true, decide_eq_true_eq, decide_eq_false_iff_not, hp_I, hp_sI, hp_N, ev_k_s, ev_k_n, true_and, and_true, true_or, or_true, not_true_eq_false, not_false_eq_true, if_true, if_false, ite_self, Option.some.injEq, exists_eq_left', nb_0, nb_1, nb_z, zI_t, zI_f, zI_e, cat_i, cat_r, cat_n, iI_add, iI_sub, iI_mul, iI_neg, iI_lt, iI_le, iI_eq, iI_idx, iI_inT, iI_ne0, ite_false, ite_true, iN_0, iN_1, Int.reduceAdd, Int.reduceSub, Int.reduceMul, Int.reduceNeg, Int.reduceDiv, Int.reduceMod, Int.reduceEq, Int.reduceLT, Int.reduceLE, Int.reduceToNat, Nat.reduceAdd, Nat.reduceSub, Nat.reduceMul, Nat.reduceLT, Nat.reduceLeDiff, Nat.reduceEqDiff, Int.cast_ofNat_Int, Std.le_refl, and_self, Int.toNat_natCast, Int.toNat_zero, Nat.le_refl]
      refine k87 o0 (by omega) (by omega) ?_
      simp (disch := first | exact cat_i _ | exact cat_r _ | exact cat_n | omega) only [u122_98, u122_100, u122_101, u122_102, u122_105, u122_106, hT_0, if_pos, if_neg, ↓reduceIte, false_and, and_false, false_or, or_false, ite_not, decide_true, decide_false, Bool.true_eq_false, Bool.false_eq_true, decide_eq_true_eq, decide_eq_false_iff_not, hp_I, hp_sI, hp_N, ev_k_s, ev_k_n, true_and, and_true, true_or, or_true, not_true_eq_false, not_false_eq_true, if_true, if_false, ite_self, Option.some.injEq, exists_eq_left', nb_0, nb_1, nb_z, zI_t, zI_f, zI_e, cat_i, cat_r, cat_n, iI_add, iI_sub, iI_mul, iI_neg, iI_lt, iI_le, iI_eq, iI_idx, iI_inT, iI_ne0, ite_false, ite_true, iN_0, iN_1, Int.reduceAdd, Int.reduceSub, Int.reduceMul, Int.reduceNeg, Int.reduceDiv, Int.reduceMod, Int.reduceEq, Int.reduceLT, Int.reduceLE, Int.reduceToNat, Nat.reduceAdd, Nat.reduceSub, Nat.reduceMul, Nat.reduceLT, Nat.reduceLeDiff, Nat.reduceEqDiff, Int.cast_ofNat_Int, Std.le_refl, and_self, Int.toNat_natCast, Int.toNat_zero, Nat.le_refl]
      exact fin
/-- a turn of the loop of isRealised -/
theorem k121t {A2 : AS} {x8 x9 x10 : Value} (hv : VS S) (hA : A2.1 = rel S S.2.length) (hS : (lst S).1 < 1000000) (hk : k < S.2.length) (h8 : x8.category = 1) (h9 : x9.category = 1) (h10 : x10.category = 1)
    (hK : ∀ x8 x9 x10 : Value, x8.category = 1 → x9.category = 1 → x10.category = 1 → RW L A2 (fun σ I Q => ev_w 121 122 [.ref 0, .int (iI (vcs S : Int)), .int (iI (cstA S : Int)), .int (iI (S.2.length : Int)), .int (iI ((lst S).1 : Int)), .int (iI ((lst S).1 : Int)), .int (iI 1), .int (iI ((k + 1 : Nat) : Int)), x8, x9, x10] [] (hp L σ I) (K Q))) : RW L A2 (fun σ I Q => ev_w 121 122 [.ref 0, .int (iI (vcs S : Int)), .int (iI (cstA S : Int)), .int (iI (S.2.length : Int)), .int (iI ((lst S).1 : Int)), .int (iI ((lst S).1 : Int)), .int (iI 1), .int (iI (k : Int)), x8, x9, x10] [] (hp L σ I) (K Q)) := by
  have hl := hv.2.2.2.1
  have hvl := vcs_lt hl
  have hkA : k < A2.1.2.length := by rw [hA, rel_len]; exact hk
  have o6 : opOf A2 (k : Int) 6 = (flt (rel S S.2.length) k : Int) := by rw [of_6 hkA, hA]
  have hf := flt_lt (rel S S.2.length) k
  have e4 : (k : Int) + 1 = ((k + 1 : Nat) : Int) := by omega
  have vb := vcs_b hk
  have s5 : flt (rel S S.2.length) k >>> 5 = flt (rel S S.2.length) k / 32 := by rw [Nat.shiftRight_eq_div_pow]
  have t5 : (5 : Int).toNat = 5 := rfl
  simp (disch := first | exact h8 | exact h9 | exact h10 | exact cat_i _ | omega) only [u121_122, u121_124, u121_125, u121_128, u121_130, u121_133, u121_134, u121_136, u121_138, hT_0, if_pos, if_neg, ↓reduceIte, false_and, and_false, false_or, or_false, ite_not, decide_true, decide_false, Bool.true_eq_false, Bool.false_eq_true, decide_eq_true_eq, decide_eq_false_iff_not, hp_I, hp_sI, hp_N, ev_k_s, ev_k_n, true_and, and_true, true_or, or_true, not_true_eq_false, not_false_eq_true, if_true, if_false, ite_self, Option.some.injEq, exists_eq_left', nb_0, nb_1, nb_z, zI_t, zI_f, zI_e, cat_i, cat_r, cat_n, iI_add, iI_sub, iI_mul, iI_neg, iI_lt, iI_le, iI_eq, iI_idx, iI_inT, iI_ne0, ite_false, ite_true, iN_0, iN_1, Int.reduceAdd, Int.reduceSub, Int.reduceMul, Int.reduceNeg, Int.reduceDiv, Int.reduceMod, Int.reduceEq, Int.reduceLT, Int.reduceLE, Int.reduceToNat, Nat.reduceAdd, Nat.reduceSub, Nat.reduceMul, Nat.reduceLT, Nat.reduceLeDiff, Nat.reduceEqDiff, Int.cast_ofNat_Int, Std.le_refl, and_self, Int.toNat_natCast, Int.toNat_zero, Nat.le_refl]
  refine k87 o6 (by omega) (by omega) ?_
  cases k with
  | zero =>
    have g := fl_bhd hS hk (Or.inl rfl)
    cases ea : (ch S 0).2.2 with
    | none =>
      rw [ea, if_neg (by decide)] at vb
      have g0 := fl_own hS hk ea
      simp (disch := first | exact h8 | exact h9 | exact h10 | exact cat_i _ | omega) only [u121_141, u121_143, u121_144, u121_146, u121_147, u121_148, u121_149, u121_152, u121_153, u121_156, u121_157, u121_159, u121_161, u121_164, u121_165, u121_167, u121_168, u121_169, u121_170, u121_171, u121_172, u121_175, u121_176, u121_179, u121_180, u121_182, u121_184, u121_187, u121_189, u121_191, u121_192, u121_195, u121_197, u121_200, u121_202, u121_205, u121_207, u121_208, u121_209, u121_212, u121_213, u121_216, u121_217, u121_219, u121_222, hT_0, iI_shrz, iI_and1, iI_a31, sb, vb, g0, g, s5, t5, e4, Int.natCast_zero, if_pos, if_neg, ↓reduceIte, false_and, and_false, false_or, or_false, ite_not, decide_true, decide_false, Bool.true_eq_false, Bool.false_eq_true, decide_eq_true_eq, decide_eq_false_iff_not, hp_I, hp_sI, hp_N, ev_k_s, ev_k_n, true_and, and_true, true_or, or_true, not_true_eq_false, not_false_eq_true, if_true, if_false, ite_self, Option.some.injEq, exists_eq_left', nb_0, nb_1, nb_z, zI_t, zI_f, zI_e, cat_i, cat_r, cat_n, iI_add, iI_sub, iI_mul, iI_neg, iI_lt, iI_le, iI_eq, iI_idx, iI_inT, iI_ne0, ite_false, ite_true, iN_0, iN_1, Int.reduceAdd, Int.reduceSub, Int.reduceMul, Int.reduceNeg, Int.reduceDiv, Int.reduceMod, Int.reduceEq, Int.reduceLT, Int.reduceLE, Int.reduceToNat, Nat.reduceAdd, Nat.reduceSub, Nat.reduceMul, Nat.reduceLT, Nat.reduceLeDiff, Nat.reduceEqDiff, Int.cast_ofNat_Int, Std.le_refl, and_self, Int.toNat_natCast, Int.toNat_zero, Nat.le_refl]
      exact hK _ _ _ (cat_i _) (cat_i _) (cat_i _)
    | some v =>
      rw [ea, Option.isSome_some, if_pos rfl] at vb
      simp (disch := first | exact h8 | exact h9 | exact h10 | exact cat_i _ | omega) only [u121_141, u121_143, u121_144, u121_146, u121_147, u121_148, u121_149, u121_152, u121_153, u121_156, u121_157, u121_159, u121_161, u121_164, u121_165, u121_167, u121_168, u121_169, u121_170, u121_171, u121_172, u121_175, u121_176, u121_179, u121_180, u121_182, u121_184, u121_187, u121_189, u121_191, u121_192, u121_195, u121_197, u121_200, u121_202, u121_205, u121_207, u121_208, u121_209, u121_212, u121_213, u121_216, u121_217, u121_219, u121_222, hT_0, iI_shrz, iI_and1, iI_a31, sb, vb, g, s5, t5, e4, Int.natCast_zero, Int.natCast_one, if_pos, if_neg, ↓reduceIte, false_and, and_false, false_or, or_false, ite_not, decide_true, decide_false, Bool.true_eq_false, Bool.false_eq_true, decide_eq_true_eq, decide_eq_false_iff_not, hp_I, hp_sI, hp_N, ev_k_s, ev_k_n, true_and, and_true, true_or, or_true, not_true_eq_false, not_false_eq_true, if_true, if_false, ite_self, Option.some.injEq, exists_eq_left', nb_0, nb_1, nb_z, zI_t, zI_f, zI_e, cat_i, cat_r, cat_n, iI_add, iI_sub, iI_mul, iI_neg, iI_lt, iI_le, iI_eq, iI_idx, iI_inT, iI_ne0, ite_false, ite_true, iN_0, iN_1, Int.reduceAdd, Int.reduceSub, Int.reduceMul, Int.reduceNeg, Int.reduceDiv, Int.reduceMod, Int.reduceEq, Int.reduceLT, Int.reduceLE, Int.reduceToNat, Nat.reduceAdd, Nat.reduceSub, Nat.reduceMul, Nat.reduceLT, Nat.reduceLeDiff, Nat.reduceEqDiff, Int.cast_ofNat_Int, Std.le_refl, and_self, Int.toNat_natCast, Int.toNat_zero, Nat.le_refl]
      exact hK _ _ _ (cat_i _) (cat_i _) (cat_i _)
  | succ j =>
    have vb2 := vcs_b (S := S) (k := j) (by omega)
    have ek : ((j + 1 : Nat) : Int) - 1 = (j : Int) := by omega
    cases ea : (ch S (j + 1)).2.2 with
    | none =>
      rw [ea, if_neg (by decide)] at vb
      have g0 := fl_own hS hk ea
      have g := fl_bhd hS hk (Or.inr (Or.inl ea))
      cases eb : (ch S j).2.2 with
      | none =>
        rw [eb, if_neg (by decide)] at vb2
        simp (disch := first | exact h8 | exact h9 | exact h10 | exact cat_i _ | omega) only [u121_141, u121_143, u121_144, u121_146, u121_147, u121_148, u121_149, u121_152, u121_153, u121_156, u121_157, u121_159, u121_161, u121_164, u121_165, u121_167, u121_168, u121_169, u121_170, u121_171, u121_172, u121_175, u121_176, u121_179, u121_180, u121_182, u121_184, u121_187, u121_189, u121_191, u121_192, u121_195, u121_197, u121_200, u121_202, u121_205, u121_207, u121_208, u121_209, u121_212, u121_213, u121_216, u121_217, u121_219, u121_222, hT_0, iI_shrz, iI_and1, iI_a31, sb, vb, vb2, g0, g, s5, t5, e4, ek, Int.natCast_zero, if_pos, if_neg, ↓reduceIte, false_and, and_false, false_or, or_false, ite_not, decide_true, decide_false, Bool.true_eq_false, Bool.false_eq_true, decide_eq_true_eq, decide_eq_false_iff_not, hp_I, hp_sI, hp_N, ev_k_s, ev_k_n, true_and, and_true, true_or, or_true, not_true_eq_false, not_false_eq_true, if_true, if_false, ite_self, Option.some.injEq, exists_eq_left', nb_0, nb_1, nb_z, zI_t, zI_f, zI_e, cat_i, cat_r, cat_n, iI_add, iI_sub, iI_mul, iI_neg, iI_lt, iI_le, iI_eq, iI_idx, iI_inT, iI_ne0, ite_false, ite_true, iN_0, iN_1, Int.reduceAdd, Int.reduceSub, Int.reduceMul, Int.reduceNeg, Int.reduceDiv, Int.reduceMod, Int.reduceEq, Int.reduceLT, Int.reduceLE, Int.reduceToNat, Nat.reduceAdd, Nat.reduceSub, Nat.reduceMul, Nat.reduceLT, Nat.reduceLeDiff, Nat.reduceEqDiff, Int.cast_ofNat_Int, Std.le_refl, and_self, Int.toNat_natCast, Int.toNat_zero, Nat.le_refl]
        exact hK _ _ _ (cat_i _) (cat_i _) (cat_i _)
      | some w =>
        rw [eb, Option.isSome_some, if_pos rfl] at vb2
        simp (disch := first | exact h8 | exact h9 | exact h10 | exact cat_i _ | omega) only [u121_141, u121_143, u121_144, u121_146, u121_147, u121_148, u121_149, u121_152, u121_153, u121_156, u121_157, u121_159, u121_161, u121_164, u121_165, u121_167, u121_168, u121_169, u121_170, u121_171, u121_172, u121_175, u121_176, u121_179, u121_180, u121_182, u121_184, u121_187, u121_189, u121_191, u121_192, u121_195, u121_197, u121_200, u121_202, u121_205, u121_207, u121_208, u121_209, u121_212, u121_213, u121_216, u121_217, u121_219, u121_222, hT_0, iI_shrz, iI_and1, iI_a31, sb, vb, vb2, g0, g, s5, t5, e4, ek, Int.natCast_zero, Int.natCast_one, if_pos, if_neg, ↓reduceIte, false_and, and_false, false_or, or_false, ite_not, decide_true, decide_false, Bool.true_eq_false, Bool.false_eq_true, decide_eq_true_eq, decide_eq_false_iff_not, hp_I, hp_sI, hp_N, ev_k_s, ev_k_n, true_and, and_true, true_or, or_true, not_true_eq_false, not_false_eq_true, if_true, if_false, ite_self, Option.some.injEq, exists_eq_left', nb_0, nb_1, nb_z, zI_t, zI_f, zI_e, cat_i, cat_r, cat_n, iI_add, iI_sub, iI_mul, iI_neg, iI_lt, iI_le, iI_eq, iI_idx, iI_inT, iI_ne0, ite_false, ite_true, iN_0, iN_1, Int.reduceAdd, Int.reduceSub, Int.reduceMul, Int.reduceNeg, Int.reduceDiv, Int.reduceMod, Int.reduceEq, Int.reduceLT, Int.reduceLE, Int.reduceToNat, Nat.reduceAdd, Nat.reduceSub, Nat.reduceMul, Nat.reduceLT, Nat.reduceLeDiff, Nat.reduceEqDiff, Int.cast_ofNat_Int, Std.le_refl, and_self, Int.toNat_natCast, Int.toNat_zero, Nat.le_refl]
        exact hK _ _ _ (cat_i _) (cat_i _) (cat_i _)
    | some v =>
      rw [ea, Option.isSome_some, if_pos rfl] at vb
      cases eb : (ch S j).2.2 with
      | none =>
        rw [eb, if_neg (by decide)] at vb2
        have g := fl_bhd hS hk (Or.inr (Or.inr eb))
        simp (disch := first | exact h8 | exact h9 | exact h10 | exact cat_i _ | omega) only [u121_141, u121_143, u121_144, u121_146, u121_147, u121_148, u121_149, u121_152, u121_153, u121_156, u121_157, u121_159, u121_161, u121_164, u121_165, u121_167, u121_168, u121_169, u121_170, u121_171, u121_172, u121_175, u121_176, u121_179, u121_180, u121_182, u121_184, u121_187, u121_189, u121_191, u121_192, u121_195, u121_197, u121_200, u121_202, u121_205, u121_207, u121_208, u121_209, u121_212, u121_213, u121_216, u121_217, u121_219, u121_222, hT_0, iI_shrz, iI_and1, iI_a31, sb, vb, vb2, g, s5, t5, e4, ek, Int.natCast_zero, Int.natCast_one, if_pos, if_neg, ↓reduceIte, false_and, and_false, false_or, or_false, ite_not, decide_true, decide_false, Bool.true_eq_false, Bool.false_eq_true, decide_eq_true_eq, decide_eq_false_iff_not, hp_I, hp_sI, hp_N, ev_k_s, ev_k_n, true_and, and_true, true_or, or_true, not_true_eq_false, not_false_eq_true, if_true, if_false, ite_self, Option.some.injEq, exists_eq_left', nb_0, nb_1, nb_z, zI_t, zI_f, zI_e, cat_i, cat_r, cat_n, iI_add, iI_sub, iI_mul, iI_neg, iI_lt, iI_le, iI_eq, iI_idx, iI_inT, iI_ne0, ite_false, ite_true, iN_0, iN_1, Int.reduceAdd, Int.reduceSub, Int.reduceMul, Int.reduceNeg, Int.reduceDiv, Int.reduceMod, Int.reduceEq, Int.reduceLT, Int.reduceLE, Int.reduceToNat, Nat.reduceAdd, Nat.reduceSub, Nat.reduceMul, Nat.reduceLT, Nat.reduceLeDiff, Nat.reduceEqDiff, Int.cast_ofNat_Int, Std.le_refl, and_self, Int.toNat_natCast, Int.toNat_zero, Nat.le_refl]
        exact hK _ _ _ (cat_i _) (cat_i _) (cat_i _)
      | some w =>
        rw [eb, Option.isSome_some, if_pos rfl] at vb2
        simp (disch := first | exact h8 | exact h9 | exact h10 | exact cat_i _ | omega) only [u121_141, u121_143, u121_144, u121_146, u121_147, u121_148, u121_149, u121_152, u121_153, u121_156, u121_157, u121_159, u121_161, u121_164, u121_165, u121_167, u121_168, u121_169, u121_170, u121_171, u121_172, u121_175, u121_176, u121_179, u121_180, u121_182, u121_184, u121_187, u121_189, u121_191, u121_192, u121_195, u121_197, u121_200, u121_202, u121_205, u121_207, u121_208, u121_209, u121_212, u121_213, u121_216, u121_217, u121_219, u121_222, hT_0, iI_shrz, iI_and1, iI_a31, sb, vb, vb2, s5, t5, e4, ek, Int.natCast_zero, Int.natCast_one, if_pos, if_neg, ↓reduceIte, false_and, and_false, false_or, or_false, ite_not, decide_true, decide_false, Bool.true_eq_false, Bool.false_eq_true, decide_eq_true_eq, decide_eq_false_iff_not, hp_I, hp_sI, hp_N, ev_k_s, ev_k_n, true_and, and_true, true_or, or_true, not_true_eq_false, not_false_eq_true, if_true, if_false, ite_self, Option.some.injEq, exists_eq_left', nb_0, nb_1, nb_z, zI_t, zI_f, zI_e, cat_i, cat_r, cat_n, iI_add, iI_sub, iI_mul, iI_neg, iI_lt, iI_le, iI_eq, iI_idx, iI_inT, iI_ne0, ite_false, ite_true, iN_0, iN_1, Int.reduceAdd, Int.reduceSub, Int.reduceMul, Int.reduceNeg, Int.reduceDiv, Int.reduceMod, Int.reduceEq, Int.reduceLT, Int.reduceLE, Int.reduceToNat, Nat.reduceAdd, Nat.reduceSub, Nat.reduceMul, Nat.reduceLT, Nat.reduceLeDiff, Nat.reduceEqDiff, Int.cast_ofNat_Int, Std.le_refl, and_self, Int.toNat_natCast, Int.toNat_zero, Nat.le_refl]
        exact hK _ _ _ (cat_i _) (cat_i _) (cat_i _)
theorem k121 (hK : ∀ A' : AS, RW L A' (fun σ I Q => K Q (some (.int (iI 1))) (hp L σ I))) : RW L A (fun σ I Q => ev_c 121 [.ref 0] (hp L σ I) (K Q)) := by
  refine rw_v fun hv h6 _ => ?_
  have hl := hv.2.2.2.1
  have hvl := vcs_lt hl
  have hP : 2 ^ A.1.2.length ≤ 1024 := Nat.pow_le_pow_right (n := 2) (by omega) hl
  have hP1 : 1 ≤ 2 ^ A.1.2.length := Nat.one_le_two_pow
  have tN : (A.1.2.length : Int).toNat = A.1.2.length := rfl
  simp (disch := first | exact cat_i _ | exact cat_r _ | exact cat_n | omega) only [u121_0, u121_1, u121_2, e121, hT_0, if_pos, if_neg, ↓reduceIte, false_and, and_false, false_or, or_false, ite_not, decide_true, decide_false, Bool.true_eq_false, Bool.false_eq_true, decide_eq_true_eq, decide_eq_false_iff_not, hp_I, hp_sI, hp_N, ev_k_s, ev_k_n, true_and, and_true, true_or, or_true, not_true_eq_false, not_false_eq_true, if_true, if_false, ite_self, Option.some.injEq, exists_eq_left', nb_0, nb_1, nb_z, zI_t, zI_f, zI_e, cat_i, cat_r, cat_n, iI_add, iI_sub, iI_mul, iI_neg, iI_lt, iI_le, iI_eq, iI_idx, iI_inT, iI_ne0, ite_false, ite_true, iN_0, iN_1, Int.reduceAdd, Int.reduceSub, Int.reduceMul, Int.reduceNeg, Int.reduceDiv, Int.reduceMod, Int.reduceEq, Int.reduceLT, Int.reduceLE, Int.reduceToNat, Nat.reduceAdd, Nat.reduceSub, Nat.reduceMul, Nat.reduceLT, Nat.reduceLeDiff, Nat.reduceEqDiff, Int.cast_ofNat_Int, Std.le_refl, and_self, Int.toNat_natCast, Int.toNat_zero, Nat.le_refl]
  refine k89 ct_1 (by omega) ?_
  simp (disch := first | exact cat_i _ | exact cat_r _ | exact cat_n | omega) only [u121_5, u121_6, u121_7, u121_8, hT_0, if_pos, if_neg, ↓reduceIte, false_and, and_false, false_or, or_false, ite_not, decide_true, decide_false, Bool.true_eq_false, Bool.false_eq_true, decide_eq_true_eq, decide_eq_false_iff_not, hp_I, hp_sI, hp_N, ev_k_s, ev_k_n, true_and, and_true, true_or, or_true, not_true_eq_false, not_false_eq_true, if_true, if_false, ite_self, Option.some.injEq, exists_eq_left', nb_0, nb_1, nb_z, zI_t, zI_f, zI_e, cat_i, cat_r, cat_n, iI_add, iI_sub, iI_mul, iI_neg, iI_lt, iI_le, iI_eq, iI_idx, iI_inT, iI_ne0, ite_false, ite_true, iN_0, iN_1, Int.reduceAdd, Int.reduceSub, Int.reduceMul, Int.reduceNeg, Int.reduceDiv, Int.reduceMod, Int.reduceEq, Int.reduceLT, Int.reduceLE, Int.reduceToNat, Nat.reduceAdd, Nat.reduceSub, Nat.reduceMul, Nat.reduceLT, Nat.reduceLeDiff, Nat.reduceEqDiff, Int.cast_ofNat_Int, Std.le_refl, and_self, Int.toNat_natCast, Int.toNat_zero, Nat.le_refl]
  refine k89 ct_4 (by omega) ?_
  simp (disch := first | exact cat_i _ | exact cat_r _ | exact cat_n | omega) only [u121_11, u121_12, u121_13, u121_14, hT_0, if_pos, if_neg, ↓reduceIte, false_and, and_false, false_or, or_false, ite_not, decide_true, decide_false, Bool.true_eq_false, Bool.false_eq_true, decide_eq_true_eq, decide_eq_false_iff_not, hp_I, hp_sI, hp_N, ev_k_s, ev_k_n, true_and, and_true, true_or, or_true, not_true_eq_false, not_false_eq_true, if_true, if_false, ite_self, Option.some.injEq, exists_eq_left', nb_0, nb_1, nb_z, zI_t, zI_f, zI_e, cat_i, cat_r, cat_n, iI_add, iI_sub, iI_mul, iI_neg, iI_lt, iI_le, iI_eq, iI_idx, iI_inT, iI_ne0, ite_false, ite_true, iN_0, iN_1, Int.reduceAdd, Int.reduceSub, Int.reduceMul, Int.reduceNeg, Int.reduceDiv, Int.reduceMod, Int.reduceEq, Int.reduceLT, Int.reduceLE, Int.reduceToNat, Nat.reduceAdd, Nat.reduceSub, Nat.reduceMul, Nat.reduceLT, Nat.reduceLeDiff, Nat.reduceEqDiff, Int.cast_ofNat_Int, Std.le_refl, and_self, Int.toNat_natCast, Int.toNat_zero, Nat.le_refl]
  refine k89 ct_0 (by omega) ?_
  simp (disch := first | exact cat_i _ | exact cat_r _ | exact cat_n | omega) only [u121_17, u121_18, u121_19, hT_0, if_pos, if_neg, ↓reduceIte, false_and, and_false, false_or, or_false, ite_not, decide_true, decide_false, Bool.true_eq_false, Bool.false_eq_true, decide_eq_true_eq, decide_eq_false_iff_not, hp_I, hp_sI, hp_N, ev_k_s, ev_k_n, true_and, and_true, true_or, or_true, not_true_eq_false, not_false_eq_true, if_true, if_false, ite_self, Option.some.injEq, exists_eq_left', nb_0, nb_1, nb_z, zI_t, zI_f, zI_e, cat_i, cat_r, cat_n, iI_add, iI_sub, iI_mul, iI_neg, iI_lt, iI_le, iI_eq, iI_idx, iI_inT, iI_ne0, ite_false, ite_true, iN_0, iN_1, Int.reduceAdd, Int.reduceSub, Int.reduceMul, Int.reduceNeg, Int.reduceDiv, Int.reduceMod, Int.reduceEq, Int.reduceLT, Int.reduceLE, Int.reduceToNat, Nat.reduceAdd, Nat.reduceSub, Nat.reduceMul, Nat.reduceLT, Nat.reduceLeDiff, Nat.reduceEqDiff, Int.cast_ofNat_Int, Std.le_refl, and_self, Int.toNat_natCast, Int.toNat_zero, Nat.le_refl]
  refine k91 rfl ?_
  simp (disch := first | exact cat_i _ | exact cat_r _ | exact cat_n | omega) only [u121_22, u121_24, u121_25, hT_0, if_pos, if_neg, ↓reduceIte, false_and, and_false, false_or, or_false, ite_not, decide_true, decide_false, Bool.true_eq_false, Bool.false_eq_true, decide_eq_true_eq, decide_eq_false_iff_not, hp_I, hp_sI, hp_N, ev_k_s, ev_k_n, true_and, and_true, true_or, or_true, not_true_eq_false, not_false_eq_true, if_true, if_false, ite_self, Option.some.injEq, exists_eq_left', nb_0, nb_1, nb_z, zI_t, zI_f, zI_e, cat_i, cat_r, cat_n, iI_add, iI_sub, iI_mul, iI_neg, iI_lt, iI_le, iI_eq, iI_idx, iI_inT, iI_ne0, ite_false, ite_true, iN_0, iN_1, Int.reduceAdd, Int.reduceSub, Int.reduceMul, Int.reduceNeg, Int.reduceDiv, Int.reduceMod, Int.reduceEq, Int.reduceLT, Int.reduceLE, Int.reduceToNat, Nat.reduceAdd, Nat.reduceSub, Nat.reduceMul, Nat.reduceLT, Nat.reduceLeDiff, Nat.reduceEqDiff, Int.cast_ofNat_Int, Std.le_refl, and_self, Int.toNat_natCast, Int.toNat_zero, Nat.le_refl]
  rcases lsr_in A.1 with e | ⟨hn, hS, e⟩
  · have er : opReal A = (-5, A) := by
      unfold opReal
      rw [e, if_pos (by decide)]
    refine k85 er ?_
    rw [e]
    simp (disch := first | exact cat_i _ | exact cat_r _ | exact cat_n | omega) only [u121_28, u121_30, u121_32, u121_34, u121_37, u121_39, u121_41, u121_44, u121_46, u121_48, u121_51, u121_52, u121_53, hT_0, if_pos, if_neg, ↓reduceIte, false_and, and_false, false_or, or_false, ite_not, decide_true, decide_false, Bool.true_eq_false, Bool.false_eq_true, decide_eq_true_eq, decide_eq_false_iff_not, hp_I, hp_sI, hp_N, ev_k_s, ev_k_n, true_and, and_true, true_or, or_true, not_true_eq_false, not_false_eq_true, if_true, if_false, ite_self, Option.some.injEq, exists_eq_left', nb_0, nb_1, nb_z, zI_t, zI_f, zI_e, cat_i, cat_r, cat_n, iI_add, iI_sub, iI_mul, iI_neg, iI_lt, iI_le, iI_eq, iI_idx, iI_inT, iI_ne0, ite_false, ite_true, iN_0, iN_1, Int.reduceAdd, Int.reduceSub, Int.reduceMul, Int.reduceNeg, Int.reduceDiv, Int.reduceMod, Int.reduceEq, Int.reduceLT, Int.reduceLE, Int.reduceToNat, Nat.reduceAdd, Nat.reduceSub, Nat.reduceMul, Nat.reduceLT, Nat.reduceLeDiff, Nat.reduceEqDiff, Int.cast_ofNat_Int, Std.le_refl, and_self, Int.toNat_natCast, Int.toNat_zero, Nat.le_refl]
    refine k89 ct_1 (by omega) ?_
    by_cases q : A.1.2.length = 0
    · rw [q]
      simp (disch := first | exact cat_i _ | exact cat_r _ | exact cat_n | omega) only [u121_56, u121_57, u121_60, u121_61, u121_73, u121_74, u121_77, u121_78, hT_0, Int.natCast_zero, if_pos, if_neg, ↓reduceIte, false_and, and_false, false_or, or_false, ite_not, decide_true, decide_false, Bool.true_eq_false, Bool.false_eq_true, decide_eq_true_eq, decide_eq_false_iff_not, hp_I, hp_sI, hp_N, ev_k_s, ev_k_n, true_and, and_true, true_or, or_true, not_true_eq_false, not_false_eq_true, if_true, if_false, ite_self, Option.some.injEq, exists_eq_left', nb_0, nb_1, nb_z, zI_t, zI_f, zI_e, cat_i, cat_r, cat_n, iI_add, iI_sub, iI_mul, iI_neg, iI_lt, iI_le, iI_eq, iI_idx, iI_inT, iI_ne0, ite_false, ite_true, iN_0, iN_1, Int.reduceAdd, Int.reduceSub, Int.reduceMul, Int.reduceNeg, Int.reduceDiv, Int.reduceMod, Int.reduceEq, Int.reduceLT, Int.reduceLE, Int.reduceToNat, Nat.reduceAdd, Nat.reduceSub, Nat.reduceMul, Nat.reduceLT, Nat.reduceLeDiff, Nat.reduceEqDiff, Int.cast_ofNat_Int, Std.le_refl, and_self, Int.toNat_natCast, Int.toNat_zero, Nat.le_refl]
      exact hK _
    · have nv : ¬ vcs A.1 = 2 ^ A.1.2.length - 1 := fun h => by
        have := lsr_all hv (by omega) fun k hk => all_vcs h hk
        omega
      have nv2 : ¬ ((vcs A.1 : Int) = ((2 ^ A.1.2.length : Nat) : Int) - 1) := by omega
      simp (disch := first | exact cat_i _ | exact cat_r _ | exact cat_n | omega) only [u121_56, u121_57, u121_60, u121_61, u121_64, u121_65, u121_66, u121_67, u121_68, u121_69, u121_70, u121_73, u121_74, u121_77, u121_78, hT_0, iI_shl1, tN, nv2, if_pos, if_neg, ↓reduceIte, false_and, and_false, false_or, or_false, ite_not, decide_true, decide_false, Bool.true_eq_false, Bool.false_eq_true, decide_eq_true_eq, decide_eq_false_iff_not, hp_I, hp_sI, hp_N, ev_k_s, ev_k_n, true_and, and_true, true_or, or_true, not_true_eq_false, not_false_eq_true, if_true, if_false, ite_self, Option.some.injEq, exists_eq_left', nb_0, nb_1, nb_z, zI_t, zI_f, zI_e, cat_i, cat_r, cat_n, iI_add, iI_sub, iI_mul, iI_neg, iI_lt, iI_le, iI_eq, iI_idx, iI_inT, iI_ne0, ite_false, ite_true, iN_0, iN_1, Int.reduceAdd, Int.reduceSub, Int.reduceMul, Int.reduceNeg, Int.reduceDiv, Int.reduceMod, Int.reduceEq, Int.reduceLT, Int.reduceLE, Int.reduceToNat, Nat.reduceAdd, Nat.reduceSub, Nat.reduceMul, Nat.reduceLT, Nat.reduceLeDiff, Nat.reduceEqDiff, Int.cast_ofNat_Int, Std.le_refl, and_self, Int.toNat_natCast, Int.toNat_zero, Nat.le_refl]
      exact hK _
  · have er : opReal A = (((lst A.1).1 : Int), (rel A.1 A.1.2.length, pus A.2.1 A.1, A.2.2)) := by
      unfold opReal
      rw [e, if_neg (by omega)]
    have c1 : opCount (rel A.1 A.1.2.length, pus A.2.1 A.1, A.2.2) 1 = ((2 ^ A.1.2.length : Nat) : Int) - 1 := by
      rw [ct_1]
      show (vcs (rel A.1 A.1.2.length) : Int) = _
      rw [vcs_re hS]
      omega
    have c4 : opCount (rel A.1 A.1.2.length, pus A.2.1 A.1, A.2.2) 4 = ((lst A.1).1 : Int) := by
      rw [ct_4]
      show (cstA (rel A.1 A.1.2.length) : Int) = _
      rw [cstA_re hS hn]
    have hle := cstA_le hS hn
    obtain ⟨X, hX, hX6⟩ := pus_x A.2.1 A.1 h6
    have eu := undo_x (A := (rel A.1 A.1.2.length, pus A.2.1 A.1, A.2.2)) hX
    refine k85 er ?_
    rw [e]
    simp (disch := first | exact cat_i _ | exact cat_r _ | exact cat_n | omega) only [u121_28, u121_30, u121_32, u121_34, u121_37, u121_39, u121_41, u121_79, u121_80, u121_83, u121_84, u121_85, hT_0, if_pos, if_neg, ↓reduceIte, false_and, and_false, false_or, or_false, ite_not, decide_true, decide_false, Bool.true_eq_false, Bool.false_eq_true, decide_eq_true_eq, decide_eq_false_iff_not, hp_I, hp_sI, hp_N, ev_k_s, ev_k_n, true_and, and_true, true_or, or_true, not_true_eq_false, not_false_eq_true, if_true, if_false, ite_self, Option.some.injEq, exists_eq_left', nb_0, nb_1, nb_z, zI_t, zI_f, zI_e, cat_i, cat_r, cat_n, iI_add, iI_sub, iI_mul, iI_neg, iI_lt, iI_le, iI_eq, iI_idx, iI_inT, iI_ne0, ite_false, ite_true, iN_0, iN_1, Int.reduceAdd, Int.reduceSub, Int.reduceMul, Int.reduceNeg, Int.reduceDiv, Int.reduceMod, Int.reduceEq, Int.reduceLT, Int.reduceLE, Int.reduceToNat, Nat.reduceAdd, Nat.reduceSub, Nat.reduceMul, Nat.reduceLT, Nat.reduceLeDiff, Nat.reduceEqDiff, Int.cast_ofNat_Int, Std.le_refl, and_self, Int.toNat_natCast, Int.toNat_zero, Nat.le_refl]
    refine k89 c1 (by omega) ?_
    simp (disch := first | exact cat_i _ | exact cat_r _ | exact cat_n | omega) only [u121_88, u121_89, u121_90, u121_91, u121_92, u121_93, u121_96, u121_97, u121_98, hT_0, iI_shl1, tN, if_pos, if_neg, ↓reduceIte, false_and, and_false, false_or, or_false, ite_not, decide_true, decide_false, Bool.true_eq_false, Bool.false_eq_true, decide_eq_true_eq, decide_eq_false_iff_not, hp_I, hp_sI, hp_N, ev_k_s, ev_k_n, true_and, and_true, true_or, or_true, not_true_eq_false, not_false_eq_true, if_true, if_false, ite_self, Option.some.injEq, exists_eq_left', nb_0, nb_1, nb_z, zI_t, zI_f, zI_e, cat_i, cat_r, cat_n, iI_add, iI_sub, iI_mul, iI_neg, iI_lt, iI_le, iI_eq, iI_idx, iI_inT, iI_ne0, ite_false, ite_true, iN_0, iN_1, Int.reduceAdd, Int.reduceSub, Int.reduceMul, Int.reduceNeg, Int.reduceDiv, Int.reduceMod, Int.reduceEq, Int.reduceLT, Int.reduceLE, Int.reduceToNat, Nat.reduceAdd, Nat.reduceSub, Nat.reduceMul, Nat.reduceLT, Nat.reduceLeDiff, Nat.reduceEqDiff, Int.cast_ofNat_Int, Std.le_refl, and_self, Int.toNat_natCast, Int.toNat_zero, Nat.le_refl]
    refine k89 c4 (by omega) ?_
    simp (disch := first | exact cat_i _ | exact cat_r _ | exact cat_n | omega) only [u121_101, u121_103, u121_106, u121_108, u121_109, u121_112, u121_113, u121_116, u121_117, u121_119, u121_120, hT_0, if_pos, if_neg, ↓reduceIte, false_and, and_false, false_or, or_false, ite_not, decide_true, decide_false, Bool.true_eq_false, Bool.false_eq_true, decide_eq_true_eq, decide_eq_false_iff_not, hp_I, hp_sI, hp_N, ev_k_s, ev_k_n, true_and, and_true, true_or, or_true, not_true_eq_false, not_false_eq_true, if_true, if_false, ite_self, Option.some.injEq, exists_eq_left', nb_0, nb_1, nb_z, zI_t, zI_f, zI_e, cat_i, cat_r, cat_n, iI_add, iI_sub, iI_mul, iI_neg, iI_lt, iI_le, iI_eq, iI_idx, iI_inT, iI_ne0, ite_false, ite_true, iN_0, iN_1, Int.reduceAdd, Int.reduceSub, Int.reduceMul, Int.reduceNeg, Int.reduceDiv, Int.reduceMod, Int.reduceEq, Int.reduceLT, Int.reduceLE, Int.reduceToNat, Nat.reduceAdd, Nat.reduceSub, Nat.reduceMul, Nat.reduceLT, Nat.reduceLeDiff, Nat.reduceEqDiff, Int.cast_ofNat_Int, Std.le_refl, and_self, Int.toNat_natCast, Int.toNat_zero, Nat.le_refl]
    refine rw_n (C := fun k => ∀ x8 x9 x10 : Value, x8.category = 1 → x9.category = 1 → x10.category = 1 → RW L (rel A.1 A.1.2.length, pus A.2.1 A.1, A.2.2) (fun σ I Q => ev_w 121 122 [.ref 0, .int (iI (vcs A.1 : Int)), .int (iI (cstA A.1 : Int)), .int (iI (A.1.2.length : Int)), .int (iI ((lst A.1).1 : Int)), .int (iI ((lst A.1).1 : Int)), .int (iI 1), .int (iI (k : Int)), x8, x9, x10] [] (hp L σ I) (K Q))) A.1.2.length ?_ ?_ .null .null .null rfl rfl rfl
    · intro x8 x9 x10 h8 h9 h10
      simp (disch := first | exact cat_i _ | exact cat_r _ | exact cat_n | omega) only [u121_122, u121_124, u121_125, u121_225, u121_227, u121_230, u121_231, hT_0, if_pos, if_neg, ↓reduceIte, false_and, and_false, false_or, or_false, ite_not, decide_true, decide_false, Bool.true_eq_false, Bool.false_eq_true, decide_eq_true_eq, decide_eq_false_iff_not, hp_I, hp_sI, hp_N, ev_k_s, ev_k_n, true_and, and_true, true_or, or_true, not_true_eq_false, not_false_eq_true, if_true, if_false, ite_self, Option.some.injEq, exists_eq_left', nb_0, nb_1, nb_z, zI_t, zI_f, zI_e, cat_i, cat_r, cat_n, iI_add, iI_sub, iI_mul, iI_neg, iI_lt, iI_le, iI_eq, iI_idx, iI_inT, iI_ne0, ite_false, ite_true, iN_0, iN_1, Int.reduceAdd, Int.reduceSub, Int.reduceMul, Int.reduceNeg, Int.reduceDiv, Int.reduceMod, Int.reduceEq, Int.reduceLT, Int.reduceLE, Int.reduceToNat, Nat.reduceAdd, Nat.reduceSub, Nat.reduceMul, Nat.reduceLT, Nat.reduceLeDiff, Nat.reduceEqDiff, Int.cast_ofNat_Int, Std.le_refl, and_self, Int.toNat_natCast, Int.toNat_zero, Nat.le_refl]
      refine k98 eu ?_
      simp (disch := first | exact cat_i _ | exact cat_r _ | exact cat_n | omega) only [u121_234, u121_237, u121_238, u121_239, hT_0, if_pos, if_neg, ↓reduceIte, false_and, and_false, false_or, or_false, ite_not, decide_true, decide_false, Bool.true_eq_false, Bool.false_eq_true, decide_eq_true_eq, decide_eq_false_iff_not, hp_I, hp_sI, hp_N, ev_k_s, ev_k_n, true_and, and_true, true_or, or_true, not_true_eq_false, not_false_eq_true, if_true, if_false, ite_self, Option.some.injEq, exists_eq_left', nb_0, nb_1, nb_z, zI_t, zI_f, zI_e, cat_i, cat_r, cat_n, iI_add, iI_sub, iI_mul, iI_neg, iI_lt, iI_le, iI_eq, iI_idx, iI_inT, iI_ne0, ite_false, ite_true, iN_0, iN_1, Int.reduceAdd, Int.reduceSub, Int.reduceMul, Int.reduceNeg, Int.reduceDiv, Int.reduceMod, Int.reduceEq, Int.reduceLT, Int.reduceLE, Int.reduceToNat, Nat.reduceAdd, Nat.reduceSub, Nat.reduceMul, Nat.reduceLT, Nat.reduceLeDiff, Nat.reduceEqDiff, Int.cast_ofNat_Int, Std.le_refl, and_self, Int.toNat_natCast, Int.toNat_zero, Nat.le_refl]
      refine k89 ct_1 (by omega) ?_
      simp (disch := first | exact cat_i _ | exact cat_r _ | exact cat_n | omega) only [u121_242, u121_243, u121_246, u121_247, u121_248, hT_0, if_pos, if_neg, ↓reduceIte, false_and, and_false, false_or, or_false, ite_not, decide_true, decide_false, Bool.true_eq_false, Bool.false_eq_true, decide_eq_true_eq, decide_eq_false_iff_not, hp_I, hp_sI, hp_N, ev_k_s, ev_k_n, true_and, and_true, true_or, or_true, not_true_eq_false, not_false_eq_true, if_true, if_false, ite_self, Option.some.injEq, exists_eq_left', nb_0, nb_1, nb_z, zI_t, zI_f, zI_e, cat_i, cat_r, cat_n, iI_add, iI_sub, iI_mul, iI_neg, iI_lt, iI_le, iI_eq, iI_idx, iI_inT, iI_ne0, ite_false, ite_true, iN_0, iN_1, Int.reduceAdd, Int.reduceSub, Int.reduceMul, Int.reduceNeg, Int.reduceDiv, Int.reduceMod, Int.reduceEq, Int.reduceLT, Int.reduceLE, Int.reduceToNat, Nat.reduceAdd, Nat.reduceSub, Nat.reduceMul, Nat.reduceLT, Nat.reduceLeDiff, Nat.reduceEqDiff, Int.cast_ofNat_Int, Std.le_refl, and_self, Int.toNat_natCast, Int.toNat_zero, Nat.le_refl]
      refine k89 ct_4 (by omega) ?_
      simp (disch := first | exact cat_i _ | exact cat_r _ | exact cat_n | omega) only [u121_251, u121_252, u121_255, u121_256, u121_259, u121_260, hT_0, if_pos, if_neg, ↓reduceIte, false_and, and_false, false_or, or_false, ite_not, decide_true, decide_false, Bool.true_eq_false, Bool.false_eq_true, decide_eq_true_eq, decide_eq_false_iff_not, hp_I, hp_sI, hp_N, ev_k_s, ev_k_n, true_and, and_true, true_or, or_true, not_true_eq_false, not_false_eq_true, if_true, if_false, ite_self, Option.some.injEq, exists_eq_left', nb_0, nb_1, nb_z, zI_t, zI_f, zI_e, cat_i, cat_r, cat_n, iI_add, iI_sub, iI_mul, iI_neg, iI_lt, iI_le, iI_eq, iI_idx, iI_inT, iI_ne0, ite_false, ite_true, iN_0, iN_1, Int.reduceAdd, Int.reduceSub, Int.reduceMul, Int.reduceNeg, Int.reduceDiv, Int.reduceMod, Int.reduceEq, Int.reduceLT, Int.reduceLE, Int.reduceToNat, Nat.reduceAdd, Nat.reduceSub, Nat.reduceMul, Nat.reduceLT, Nat.reduceLeDiff, Nat.reduceEqDiff, Int.cast_ofNat_Int, Std.le_refl, and_self, Int.toNat_natCast, Int.toNat_zero, Nat.le_refl]
      exact hK _
    · intro k hk ih x8 x9 x10 h8 h9 h10
      exact k121t hv rfl hS hk h8 h9 h10 ih
end MM
