section MW
variable {L : Nat} {σ : Nat → Nat} {I J : Nat → Nat → Int32} {Q : Option Value → fb_H → Prop} {h : fb_H} {x y z iv : Int} {S : Co} {n m a o b b' : Nat} {v w : Nat × Nat × Nat}
/-- cells that the model works in, beside its state -/
def OthF (I J : Nat → Nat → Int32) : Prop := ∀ i q, i ≠ 108 → i ≠ 109 → J i q = I i q
theorem bass_le (hVS : VS S) (hn : n < S.2.length) : (ch S n).1 ≤ 99 := by
  have := (hVS.2.2.2.2 n hn).2.1
  omega
/-- has, of the chord ahead -/
theorem c118p (hr : RepS I 103 0 S) (hl : S.2.length ≤ 10) (hn : n ≤ S.2.length) : ev_c 118 [.ref 102, .int (iI ((n : Int) - 1))] (hp L σ I) Q = Q (some (.int (zI (pre S n).isSome))) (hp L σ I) := by
  cases n with
  | zero => rw [c118f hr hl (by omega) (by omega) (by omega)]; rfl
  | succ n => rw [show ((n + 1 : Nat) : Int) - 1 = (n : Int) by omega, c118 hr hl (by omega)]; rfl
/-- hearsAhead -/
theorem c132p (hr : RepS I 103 0 S) (hl : S.2.length ≤ 10) (hn : n < S.2.length) (hp' : pre S n = some v) : ev_c 132 [.ref 102, .int (iI (n : Int))] (hp L σ I) Q = Q none (hp L σ (w4 I 108 (ch S (n - 1)).1 v)) := by
  cases n with
  | zero => cases hp'
  | succ n => exact c132 hr hl hn hp'
/-- faultsWith -/
theorem c133 (hr : RepS I 103 0 S) (hVS : VS S) (hn : n < S.2.length) (hv : VV v) : ∃ J, (∀ Q : Option Value → fb_H → Prop, ev_c 133 [.ref 102, .int (iI (n : Int)), .int (iI (v.1 : Int)), .int (iI (v.2.1 : Int)), .int (iI (v.2.2 : Int))] (hp L σ I) Q = Q (some (.int (iI ((flw S n v : Nat) : Int)))) (hp L σ J)) ∧ OthF I J := by
  have hl := hVS.2.2.2.1
  have hb := bass_le hVS hn
  have e130 := fun Q => c130 (L := L) (σ := σ) (Q := Q) hr hl hn v
  have hr2 : RepS (w4 I 109 (ch S n).1 v) 103 0 S := RepS_o hr fun q => w4_o (by omega)
  have e126 := fun Q => c126 (L := L) (σ := σ) (Q := Q) hr2 hVS hn w4_R hb hv
  have e118 := fun Q => c118p (L := L) (σ := σ) (Q := Q) hr2 hl (Nat.le_of_lt hn)
  have ho := own_lt S.1.1 S.1.2.1 (ch S n).1 v (tn S n)
  unfold flw
  cases hpr : pre S n with
  | none =>
    rw [hpr, Option.isSome_none] at e118
    refine ⟨w4 I 109 (ch S n).1 v, fun Q => ?_, fun i q h1 h2 => w4_o h2⟩
    simp (disch := first | exact cat_i _ | exact cat_r _ | exact cat_n | omega) only [e133, u133_0, u133_1, u133_2, u133_3, u133_4, u133_6, u133_9, u133_10, u133_11, u133_14, u133_16, u133_17, u133_18, u133_19, u133_20, u133_23, u133_26, u133_27, u133_28, u133_31, u133_33, u133_34, u133_35, u133_38, u133_39, u133_41, u133_43, hT_102, e130, e126, e118, if_pos, if_neg, ↓reduceIte, false_and, and_false, false_or, or_false, ite_not, decide_true, decide_false, Bool.true_eq_false, Bool.false_eq_true, decide_eq_true_eq, decide_eq_false_iff_not, hp_I, hp_sI, hp_N, ev_k_s, ev_k_n, true_and, and_true, true_or, or_true, not_true_eq_false, not_false_eq_true, if_true, if_false, ite_self, Option.some.injEq, exists_eq_left', nb_0, nb_1, nb_z, zI_t, zI_f, zI_e, cat_i, cat_r, cat_n, iI_add, iI_sub, iI_mul, iI_neg, iI_lt, iI_le, iI_eq, iI_idx, iI_inT, iI_ne0, ite_false, ite_true, iN_0, iN_1, Int.reduceAdd, Int.reduceSub, Int.reduceMul, Int.reduceNeg, Int.reduceDiv, Int.reduceMod, Int.reduceEq, Int.reduceLT, Int.reduceLE, Int.reduceToNat, Nat.reduceAdd, Nat.reduceSub, Nat.reduceMul, Nat.reduceLT, Nat.reduceLeDiff, Nat.reduceEqDiff, Int.cast_ofNat_Int, Std.le_refl, and_self, Int.toNat_natCast, Int.toNat_zero, Nat.le_refl]
    all_goals rfl
  | some p =>
    rw [hpr, Option.isSome_some] at e118
    obtain ⟨k, e, hk, hk2, hk3, hk4⟩ := pre_i hVS (Nat.le_of_lt hn) hpr
    have e132 := fun Q => c132p (L := L) (σ := σ) (Q := Q) hr2 hl hn hpr
    have hr3 : RepS (w4 (w4 I 109 (ch S n).1 v) 108 (ch S (n - 1)).1 p) 103 0 S := RepS_o hr2 fun q => w4_o (by omega)
    have hb4 : (ch S (n - 1)).1 ≤ 99 := by rw [show n - 1 = k by omega]; exact hk4
    have e129 := fun Q => c129 (L := L) (σ := σ) (Q := Q) hr3 hVS hn w4_R (R4_o w4_R fun q => w4_o (by omega)) hb4 hk3 hb hv
    obtain ⟨z, hz, hz2⟩ := bhd_in S.1.1 S.1.2.2 (ch S (n - 1)).1 p (ch S n).1 v (tn S n)
    dsimp only
    rw [hz2] at e129 ⊢
    refine ⟨w4 (w4 I 109 (ch S n).1 v) 108 (ch S (n - 1)).1 p, fun Q => ?_, fun i q h1 h2 => (w4_o h1).trans (w4_o h2)⟩
    simp (disch := first | exact cat_i _ | exact cat_r _ | exact cat_n | omega) only [e133, u133_0, u133_1, u133_2, u133_3, u133_4, u133_6, u133_9, u133_10, u133_11, u133_14, u133_16, u133_17, u133_18, u133_19, u133_20, u133_23, u133_26, u133_27, u133_28, u133_31, u133_33, u133_34, u133_35, u133_38, u133_39, u133_41, u133_43, hT_102, e130, e126, e118, e132, e129, iI_on (n := 5) ho, if_pos, if_neg, ↓reduceIte, false_and, and_false, false_or, or_false, ite_not, decide_true, decide_false, Bool.true_eq_false, Bool.false_eq_true, decide_eq_true_eq, decide_eq_false_iff_not, hp_I, hp_sI, hp_N, ev_k_s, ev_k_n, true_and, and_true, true_or, or_true, not_true_eq_false, not_false_eq_true, if_true, if_false, ite_self, Option.some.injEq, exists_eq_left', nb_0, nb_1, nb_z, zI_t, zI_f, zI_e, cat_i, cat_r, cat_n, iI_add, iI_sub, iI_mul, iI_neg, iI_lt, iI_le, iI_eq, iI_idx, iI_inT, iI_ne0, ite_false, ite_true, iN_0, iN_1, Int.reduceAdd, Int.reduceSub, Int.reduceMul, Int.reduceNeg, Int.reduceDiv, Int.reduceMod, Int.reduceEq, Int.reduceLT, Int.reduceLE, Int.reduceToNat, Nat.reduceAdd, Nat.reduceSub, Nat.reduceMul, Nat.reduceLT, Nat.reduceLeDiff, Nat.reduceEqDiff, Int.cast_ofNat_Int, Std.le_refl, and_self, Int.toNat_natCast, Int.toNat_zero, Nat.le_refl]
/-- faults -/
theorem c134 (hr : RepS I 103 0 S) (hVS : VS S) (hn : n < S.2.length) : ∃ J, (∀ Q : Option Value → fb_H → Prop, ev_c 134 [.ref 102, .int (iI (n : Int))] (hp L σ I) Q = Q (some (.int (iI ((flt S n : Nat) : Int)))) (hp L σ J)) ∧ OthF I J := by
  have hl := hVS.2.2.2.1
  have e118 := fun Q => c118 (L := L) (σ := σ) (Q := Q) hr hl hn
  unfold flt
  cases hw : (ch S n).2.2 with
  | none =>
    rw [hw, Option.isSome_none] at e118
    refine ⟨I, fun Q => ?_, fun _ _ _ _ => rfl⟩
    simp (disch := first | exact cat_i _ | exact cat_r _ | exact cat_n | omega) only [e134, u134_0, u134_1, u134_2, u134_5, u134_8, u134_9, u134_10, u134_11, u134_12, u134_13, u134_16, u134_17, u134_18, u134_19, u134_22, u134_23, u134_24, u134_25, u134_28, u134_31, u134_34, u134_35, hT_102, e118, if_pos, if_neg, ↓reduceIte, false_and, and_false, false_or, or_false, ite_not, decide_true, decide_false, Bool.true_eq_false, Bool.false_eq_true, decide_eq_true_eq, decide_eq_false_iff_not, hp_I, hp_sI, hp_N, ev_k_s, ev_k_n, true_and, and_true, true_or, or_true, not_true_eq_false, not_false_eq_true, if_true, if_false, ite_self, Option.some.injEq, exists_eq_left', nb_0, nb_1, nb_z, zI_t, zI_f, zI_e, cat_i, cat_r, cat_n, iI_add, iI_sub, iI_mul, iI_neg, iI_lt, iI_le, iI_eq, iI_idx, iI_inT, iI_ne0, ite_false, ite_true, iN_0, iN_1, Int.reduceAdd, Int.reduceSub, Int.reduceMul, Int.reduceNeg, Int.reduceDiv, Int.reduceMod, Int.reduceEq, Int.reduceLT, Int.reduceLE, Int.reduceToNat, Nat.reduceAdd, Nat.reduceSub, Nat.reduceMul, Nat.reduceLT, Nat.reduceLeDiff, Nat.reduceEqDiff, Int.cast_ofNat_Int, Std.le_refl, and_self, Int.toNat_natCast, Int.toNat_zero, Nat.le_refl]
  | some v =>
    rw [hw, Option.isSome_some] at e118
    have hvv := (hVS.2.2.2.2 n hn).2.2.2 v hw
    have e3 := fun Q => c117_3 (L := L) (σ := σ) (Q := Q) hr hl hn hw
    have e4 := fun Q => c117_4 (L := L) (σ := σ) (Q := Q) hr hl hn hw
    have e5 := fun Q => c117_5 (L := L) (σ := σ) (Q := Q) hr hl hn hw
    obtain ⟨J, j1, j2⟩ := c133 (L := L) (σ := σ) hr hVS hn hvv
    refine ⟨J, fun Q => ?_, j2⟩
    simp (disch := first | exact cat_i _ | exact cat_r _ | exact cat_n | omega) only [e134, u134_0, u134_1, u134_2, u134_5, u134_8, u134_9, u134_10, u134_11, u134_12, u134_13, u134_16, u134_17, u134_18, u134_19, u134_22, u134_23, u134_24, u134_25, u134_28, u134_31, u134_34, u134_35, hT_102, e118, e3, e4, e5, j1, if_pos, if_neg, ↓reduceIte, false_and, and_false, false_or, or_false, ite_not, decide_true, decide_false, Bool.true_eq_false, Bool.false_eq_true, decide_eq_true_eq, decide_eq_false_iff_not, hp_I, hp_sI, hp_N, ev_k_s, ev_k_n, true_and, and_true, true_or, or_true, not_true_eq_false, not_false_eq_true, if_true, if_false, ite_self, Option.some.injEq, exists_eq_left', nb_0, nb_1, nb_z, zI_t, zI_f, zI_e, cat_i, cat_r, cat_n, iI_add, iI_sub, iI_mul, iI_neg, iI_lt, iI_le, iI_eq, iI_idx, iI_inT, iI_ne0, ite_false, ite_true, iN_0, iN_1, Int.reduceAdd, Int.reduceSub, Int.reduceMul, Int.reduceNeg, Int.reduceDiv, Int.reduceMod, Int.reduceEq, Int.reduceLT, Int.reduceLE, Int.reduceToNat, Nat.reduceAdd, Nat.reduceSub, Nat.reduceMul, Nat.reduceLT, Nat.reduceLeDiff, Nat.reduceEqDiff, Int.cast_ofNat_Int, Std.le_refl, and_self, Int.toNat_natCast, Int.toNat_zero, Nat.le_refl]
/-- cost -/
theorem c136 (hr : RepS I 103 0 S) (hVS : VS S) (hn : n < S.2.length) : ∃ J, (∀ Q : Option Value → fb_H → Prop, ev_c 136 [.ref 102, .int (iI (n : Int))] (hp L σ I) Q = Q (some (.int (iI ((cst S n : Nat) : Int)))) (hp L σ J)) ∧ OthF I J := by
  have hl := hVS.2.2.2.1
  have e118 := fun Q => c118 (L := L) (σ := σ) (Q := Q) hr hl hn
  have e118p := fun Q => c118p (L := L) (σ := σ) (Q := Q) hr hl (Nat.le_of_lt hn)
  cases hw : (ch S n).2.2 with
  | none =>
    rw [hw, Option.isSome_none] at e118
    have e0 : cst S n = 0 := by
      unfold cst
      rw [hw]
      cases pre S n <;> rfl
    rw [e0]
    refine ⟨I, fun Q => ?_, fun _ _ _ _ => rfl⟩
    simp (disch := first | exact cat_i _ | exact cat_r _ | exact cat_n | omega) only [e136, u136_0, u136_1, u136_2, u136_5, u136_8, u136_9, u136_10, u136_11, u136_12, u136_15, u136_18, u136_19, u136_20, u136_21, u136_22, u136_25, u136_26, u136_27, u136_28, u136_29, u136_30, u136_33, u136_34, u136_35, u136_36, u136_39, u136_40, u136_41, u136_42, u136_45, u136_48, u136_49, u136_52, hT_102, e118, if_pos, if_neg, ↓reduceIte, false_and, and_false, false_or, or_false, ite_not, decide_true, decide_false, Bool.true_eq_false, Bool.false_eq_true, decide_eq_true_eq, decide_eq_false_iff_not, hp_I, hp_sI, hp_N, ev_k_s, ev_k_n, true_and, and_true, true_or, or_true, not_true_eq_false, not_false_eq_true, if_true, if_false, ite_self, Option.some.injEq, exists_eq_left', nb_0, nb_1, nb_z, zI_t, zI_f, zI_e, cat_i, cat_r, cat_n, iI_add, iI_sub, iI_mul, iI_neg, iI_lt, iI_le, iI_eq, iI_idx, iI_inT, iI_ne0, ite_false, ite_true, iN_0, iN_1, Int.reduceAdd, Int.reduceSub, Int.reduceMul, Int.reduceNeg, Int.reduceDiv, Int.reduceMod, Int.reduceEq, Int.reduceLT, Int.reduceLE, Int.reduceToNat, Nat.reduceAdd, Nat.reduceSub, Nat.reduceMul, Nat.reduceLT, Nat.reduceLeDiff, Nat.reduceEqDiff, Int.cast_ofNat_Int, Std.le_refl, and_self, Int.toNat_natCast, Int.toNat_zero, Nat.le_refl]
    all_goals rfl
  | some v =>
    rw [hw, Option.isSome_some] at e118
    have hvv := (hVS.2.2.2.2 n hn).2.2.2 v hw
    cases hpr : pre S n with
    | none =>
      rw [hpr, Option.isSome_none] at e118p
      have e0 : cst S n = 0 := by
        unfold cst
        rw [hw, hpr]
      rw [e0]
      refine ⟨I, fun Q => ?_, fun _ _ _ _ => rfl⟩
      simp (disch := first | exact cat_i _ | exact cat_r _ | exact cat_n | omega) only [e136, u136_0, u136_1, u136_2, u136_5, u136_8, u136_9, u136_10, u136_11, u136_12, u136_15, u136_18, u136_19, u136_20, u136_21, u136_22, u136_25, u136_26, u136_27, u136_28, u136_29, u136_30, u136_33, u136_34, u136_35, u136_36, u136_39, u136_40, u136_41, u136_42, u136_45, u136_48, u136_49, u136_52, hT_102, e118, e118p, if_pos, if_neg, ↓reduceIte, false_and, and_false, false_or, or_false, ite_not, decide_true, decide_false, Bool.true_eq_false, Bool.false_eq_true, decide_eq_true_eq, decide_eq_false_iff_not, hp_I, hp_sI, hp_N, ev_k_s, ev_k_n, true_and, and_true, true_or, or_true, not_true_eq_false, not_false_eq_true, if_true, if_false, ite_self, Option.some.injEq, exists_eq_left', nb_0, nb_1, nb_z, zI_t, zI_f, zI_e, cat_i, cat_r, cat_n, iI_add, iI_sub, iI_mul, iI_neg, iI_lt, iI_le, iI_eq, iI_idx, iI_inT, iI_ne0, ite_false, ite_true, iN_0, iN_1, Int.reduceAdd, Int.reduceSub, Int.reduceMul, Int.reduceNeg, Int.reduceDiv, Int.reduceMod, Int.reduceEq, Int.reduceLT, Int.reduceLE, Int.reduceToNat, Nat.reduceAdd, Nat.reduceSub, Nat.reduceMul, Nat.reduceLT, Nat.reduceLeDiff, Nat.reduceEqDiff, Int.cast_ofNat_Int, Std.le_refl, and_self, Int.toNat_natCast, Int.toNat_zero, Nat.le_refl]
      all_goals rfl
    | some p =>
      rw [hpr, Option.isSome_some] at e118p
      have e0 : cst S n = dst p v := by
        unfold cst
        rw [hw, hpr]
      rw [e0]
      obtain ⟨k, e, hk, hk2, hk3, hk4⟩ := pre_i hVS (Nat.le_of_lt hn) hpr
      have e132 := fun Q => c132p (L := L) (σ := σ) (Q := Q) hr hl hn hpr
      have hr2 : RepS (w4 I 108 (ch S (n - 1)).1 p) 103 0 S := RepS_o hr fun q => w4_o (by omega)
      have e3 := fun Q => c117_3 (L := L) (σ := σ) (Q := Q) hr2 hl hn hw
      have e4 := fun Q => c117_4 (L := L) (σ := σ) (Q := Q) hr2 hl hn hw
      have e5 := fun Q => c117_5 (L := L) (σ := σ) (Q := Q) hr2 hl hn hw
      have e130 := fun Q => c130 (L := L) (σ := σ) (Q := Q) hr2 hl hn v
      have e135 := fun Q => c135 (L := L) (σ := σ) (I := w4 (w4 I 108 (ch S (n - 1)).1 p) 109 (ch S n).1 v) (Q := Q) (R4_o w4_R fun q => w4_o (by omega)) w4_R hk3 hvv
      refine ⟨w4 (w4 I 108 (ch S (n - 1)).1 p) 109 (ch S n).1 v, fun Q => ?_, fun i q h1 h2 => (w4_o h2).trans (w4_o h1)⟩
      simp (disch := first | exact cat_i _ | exact cat_r _ | exact cat_n | omega) only [e136, u136_0, u136_1, u136_2, u136_5, u136_8, u136_9, u136_10, u136_11, u136_12, u136_15, u136_18, u136_19, u136_20, u136_21, u136_22, u136_25, u136_26, u136_27, u136_28, u136_29, u136_30, u136_33, u136_34, u136_35, u136_36, u136_39, u136_40, u136_41, u136_42, u136_45, u136_48, u136_49, u136_52, hT_102, e118, e118p, e132, e3, e4, e5, e130, e135, if_pos, if_neg, ↓reduceIte, false_and, and_false, false_or, or_false, ite_not, decide_true, decide_false, Bool.true_eq_false, Bool.false_eq_true, decide_eq_true_eq, decide_eq_false_iff_not, hp_I, hp_sI, hp_N, ev_k_s, ev_k_n, true_and, and_true, true_or, or_true, not_true_eq_false, not_false_eq_true, if_true, if_false, ite_self, Option.some.injEq, exists_eq_left', nb_0, nb_1, nb_z, zI_t, zI_f, zI_e, cat_i, cat_r, cat_n, iI_add, iI_sub, iI_mul, iI_neg, iI_lt, iI_le, iI_eq, iI_idx, iI_inT, iI_ne0, ite_false, ite_true, iN_0, iN_1, Int.reduceAdd, Int.reduceSub, Int.reduceMul, Int.reduceNeg, Int.reduceDiv, Int.reduceMod, Int.reduceEq, Int.reduceLT, Int.reduceLE, Int.reduceToNat, Nat.reduceAdd, Nat.reduceSub, Nat.reduceMul, Nat.reduceLT, Nat.reduceLeDiff, Nat.reduceEqDiff, Int.cast_ofNat_Int, Std.le_refl, and_self, Int.toNat_natCast, Int.toNat_zero, Nat.le_refl]
/-- costs -/
theorem c137 (hr : RepS I 103 0 S) (hVS : VS S) : ∃ J, (∀ Q : Option Value → fb_H → Prop, ev_c 137 [.ref 102] (hp L σ I) Q = Q (some (.int (iI ((cstA S : Nat) : Int)))) (hp L σ J)) ∧ OthF I J := by
  have hl := hVS.2.2.2.1
  obtain ⟨⟨J, s⟩, ⟨p1, p2⟩, e⟩ := lx (fun Q (a : (Nat → Nat → Int32) × Nat) (k : Nat) => ev_w 137 4 [.ref 102, .int (iI (a.2 : Int)), .int (iI (k : Int))] [] (hp L σ a.1) Q) (fun a k => OthF I a.1 ∧ a.2 = (List.range k).foldl (fun a c => a + cst S c) 0) S.2.length (fun a k hk hp' => by
    obtain ⟨A, s⟩ := a
    obtain ⟨p1, p2⟩ := hp'
    dsimp only at p1 p2
    have hrA : RepS A 103 0 S := RepS_o hr fun q => p1 _ _ (by omega) (by omega)
    obtain ⟨B, b1, b2⟩ := c136 (L := L) (σ := σ) hrA hVS hk
    have h0 := hrA.1
    refine ⟨(B, s + cst S k), ⟨fun i q h1 h2 => (b2 i q h1 h2).trans (p1 i q h1 h2), by rw [List.range_succ, List.foldl_append, ← p2]; rfl⟩, fun Q => ?_⟩
    show ev_w 137 4 [.ref 102, .int (iI (s : Int)), .int (iI (k : Int))] [] (hp L σ A) Q = _
    rw [u137_4]
    simp (disch := first | exact cat_i _ | exact cat_r _ | exact cat_n | omega) only [u137_5, u137_6, u137_9, u137_10, u137_11, u137_14, u137_15, u137_16, u137_17, u137_20, u137_21, u137_22, u137_25, hT_102, hT_103, hR_102_0, h0, b1, if_pos, if_neg, ↓reduceIte, false_and, and_false, false_or, or_false, ite_not, decide_true, decide_false, Bool.true_eq_false, Bool.false_eq_true, decide_eq_true_eq, decide_eq_false_iff_not, hp_I, hp_sI, hp_N, ev_k_s, ev_k_n, true_and, and_true, true_or, or_true, not_true_eq_false, not_false_eq_true, if_true, if_false, ite_self, Option.some.injEq, exists_eq_left', nb_0, nb_1, nb_z, zI_t, zI_f, zI_e, cat_i, cat_r, cat_n, iI_add, iI_sub, iI_mul, iI_neg, iI_lt, iI_le, iI_eq, iI_idx, iI_inT, iI_ne0, ite_false, ite_true, iN_0, iN_1, Int.reduceAdd, Int.reduceSub, Int.reduceMul, Int.reduceNeg, Int.reduceDiv, Int.reduceMod, Int.reduceEq, Int.reduceLT, Int.reduceLE, Int.reduceToNat, Nat.reduceAdd, Nat.reduceSub, Nat.reduceMul, Nat.reduceLT, Nat.reduceLeDiff, Nat.reduceEqDiff, Int.cast_ofNat_Int, Std.le_refl, and_self, Int.toNat_natCast, Int.toNat_zero, Nat.le_refl]
    all_goals rfl) S.2.length 0 (I, 0) (by omega) ⟨fun _ _ _ _ => rfl, rfl⟩
  dsimp only at p1 p2
  refine ⟨J, fun Q => ?_, p1⟩
  have hrJ : RepS J 103 0 S := RepS_o hr fun q => p1 _ _ (by omega) (by omega)
  have h0 := hrJ.1
  have e0 := e Q
  clear e
  simp (disch := first | exact cat_i _ | exact cat_r _ | exact cat_n | omega) only [u137_0, u137_1, u137_2, u137_3, e137, ↓reduceIte, false_and, and_false, false_or, or_false, ite_not, decide_true, decide_false, Bool.true_eq_false, Bool.false_eq_true, decide_eq_true_eq, decide_eq_false_iff_not, hp_I, hp_sI, hp_N, ev_k_s, ev_k_n, true_and, and_true, true_or, or_true, not_true_eq_false, not_false_eq_true, if_true, if_false, ite_self, Option.some.injEq, exists_eq_left', nb_0, nb_1, nb_z, zI_t, zI_f, zI_e, cat_i, cat_r, cat_n, iI_add, iI_sub, iI_mul, iI_neg, iI_lt, iI_le, iI_eq, iI_idx, iI_inT, iI_ne0, ite_false, ite_true, iN_0, iN_1, Int.reduceAdd, Int.reduceSub, Int.reduceMul, Int.reduceNeg, Int.reduceDiv, Int.reduceMod, Int.reduceEq, Int.reduceLT, Int.reduceLE, Int.reduceToNat, Nat.reduceAdd, Nat.reduceSub, Nat.reduceMul, Nat.reduceLT, Nat.reduceLeDiff, Nat.reduceEqDiff, Int.cast_ofNat_Int, Std.le_refl, and_self, Int.toNat_natCast, Int.toNat_zero, Nat.le_refl]
  refine Eq.trans e0 ?_
  dsimp only
  rw [p2]
  simp (disch := first | exact cat_i _ | exact cat_r _ | exact cat_n | omega) only [u137_4, u137_5, u137_6, u137_9, u137_10, u137_11, u137_28, u137_29, hT_102, hT_103, hR_102_0, h0, if_pos, if_neg, ↓reduceIte, false_and, and_false, false_or, or_false, ite_not, decide_true, decide_false, Bool.true_eq_false, Bool.false_eq_true, decide_eq_true_eq, decide_eq_false_iff_not, hp_I, hp_sI, hp_N, ev_k_s, ev_k_n, true_and, and_true, true_or, or_true, not_true_eq_false, not_false_eq_true, if_true, if_false, ite_self, Option.some.injEq, exists_eq_left', nb_0, nb_1, nb_z, zI_t, zI_f, zI_e, cat_i, cat_r, cat_n, iI_add, iI_sub, iI_mul, iI_neg, iI_lt, iI_le, iI_eq, iI_idx, iI_inT, iI_ne0, ite_false, ite_true, iN_0, iN_1, Int.reduceAdd, Int.reduceSub, Int.reduceMul, Int.reduceNeg, Int.reduceDiv, Int.reduceMod, Int.reduceEq, Int.reduceLT, Int.reduceLE, Int.reduceToNat, Nat.reduceAdd, Nat.reduceSub, Nat.reduceMul, Nat.reduceLT, Nat.reduceLeDiff, Nat.reduceEqDiff, Int.cast_ofNat_Int, Std.le_refl, and_self, Int.toNat_natCast, Int.toNat_zero, Nat.le_refl]
  all_goals rfl
end MW
