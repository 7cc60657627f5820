section ME
variable {L : Nat} {σ : Nat → Nat} {I J K : Nat → Nat → Int32} {Q : Option Value → fb_H → Prop} {h : fb_H} {x y z p q r iv : Int} {S : Co} {n m a o a' o' b b' f : Nat} {v w : Nat × Nat × Nat} {A : AS} {H : List Co}
theorem c117v {k : Nat} (hr : RepS I 103 0 S) (hl : S.2.length ≤ 10) (hn : n < S.2.length) (hw : (ch S n).2.2 = some v) (hk : k < 3) : ev_c 117 [.ref 102, .int (iI (n : Int)), .int (iI (3 + (k : Int)))] (hp L σ I) Q = Q (some (.int (iI ((nt 0 v (k + 1) : Nat) : Int)))) (hp L σ I) := by
  rcases (show k = 0 ∨ k = 1 ∨ k = 2 by omega) with rfl | rfl | rfl
  · exact c117_3 hr hl hn hw
  · exact c117_4 hr hl hn hw
  · exact c117_5 hr hl hn hw
def nvk (z : Int) (vo : Option (Nat × Nat × Nat)) (k : Nat) : Bool := match vo with
  | some v => decide (0 ≤ (nt 0 v (k + 1) : Int) + z ∧ (nt 0 v (k + 1) : Int) + z ≤ 99)
  | none => true
theorem nvk_in (hVS : VS S) (hn : n < S.2.length) (hw : (ch S n).2.2 = some v) (k : Nat) : nt 0 v k ≤ 99 := nt_le (Nat.zero_le 99) ((hVS.2.2.2.2 n hn).2.2.2 v hw) k
theorem c157v {can : Bool} {k : Nat} (hr : RepS I 103 0 S) (hVS : VS S) (hn : n < S.2.length) (hz1 : -12 ≤ z) (hz2 : z ≤ 12) (hk : k < 3) : ev_w 157 45 [.ref 102, .int (iI z), .int (zI can), .int (iI (n : Int)), .int (iI (k : Int))] [] (hp L σ I) Q = ev_w 157 45 [.ref 102, .int (iI z), .int (zI (can && nvk z (ch S n).2.2 k)), .int (iI (n : Int)), .int (iI ((k : Int) + 1))] [] (hp L σ I) Q := by
  have hl := hVS.2.2.2.1
  have e118 := fun Q => c118 (L := L) (σ := σ) (Q := Q) hr hl hn
  rw [u157_45]
  cases can with
  | false => simp (disch := first | exact cat_i _ | exact cat_r _ | exact cat_n | omega) only [u157_47, u157_48, u157_51, u157_52, u157_55, u157_56, u157_57, u157_60, u157_63, u157_64, u157_65, u157_66, u157_68, u157_69, u157_72, u157_73, u157_74, u157_77, u157_80, u157_81, u157_84, u157_85, u157_86, u157_89, hT_102, Bool.false_and, if_pos, if_neg, ↓reduceIte, false_and, and_false, false_or, or_false, ite_not, decide_true, decide_false, Bool.true_eq_false, Bool.false_eq_true, decide_eq_true_eq, decide_eq_false_iff_not, hp_I, hp_sI, hp_N, ev_k_s, ev_k_n, true_and, and_true, true_or, or_true, not_true_eq_false, not_false_eq_true, if_true, if_false, ite_self, Option.some.injEq, exists_eq_left', nb_0, nb_1, nb_z, zI_t, zI_f, zI_e, cat_i, cat_r, cat_n, iI_add, iI_sub, iI_mul, iI_neg, iI_lt, iI_le, iI_eq, iI_idx, iI_inT, iI_ne0, ite_false, ite_true, iN_0, iN_1, Int.reduceAdd, Int.reduceSub, Int.reduceMul, Int.reduceNeg, Int.reduceDiv, Int.reduceMod, Int.reduceEq, Int.reduceLT, Int.reduceLE, Int.reduceToNat, Nat.reduceAdd, Nat.reduceSub, Nat.reduceMul, Nat.reduceLT, Nat.reduceLeDiff, Nat.reduceEqDiff, Int.cast_ofNat_Int, Std.le_refl, and_self, Int.toNat_natCast, Int.toNat_zero, Nat.le_refl]
  | true =>
    cases hw : (ch S n).2.2 with
    | none =>
      rw [hw, Option.isSome_none] at e118
      simp (disch := first | exact cat_i _ | exact cat_r _ | exact cat_n | omega) only [u157_47, u157_48, u157_51, u157_52, u157_55, u157_56, u157_57, u157_60, u157_63, u157_64, u157_65, u157_66, u157_68, u157_69, u157_72, u157_73, u157_74, u157_77, u157_80, u157_81, u157_84, u157_85, u157_86, u157_89, hT_102, e118, nvk, Bool.true_and, if_pos, if_neg, ↓reduceIte, false_and, and_false, false_or, or_false, ite_not, decide_true, decide_false, Bool.true_eq_false, Bool.false_eq_true, decide_eq_true_eq, decide_eq_false_iff_not, hp_I, hp_sI, hp_N, ev_k_s, ev_k_n, true_and, and_true, true_or, or_true, not_true_eq_false, not_false_eq_true, if_true, if_false, ite_self, Option.some.injEq, exists_eq_left', nb_0, nb_1, nb_z, zI_t, zI_f, zI_e, cat_i, cat_r, cat_n, iI_add, iI_sub, iI_mul, iI_neg, iI_lt, iI_le, iI_eq, iI_idx, iI_inT, iI_ne0, ite_false, ite_true, iN_0, iN_1, Int.reduceAdd, Int.reduceSub, Int.reduceMul, Int.reduceNeg, Int.reduceDiv, Int.reduceMod, Int.reduceEq, Int.reduceLT, Int.reduceLE, Int.reduceToNat, Nat.reduceAdd, Nat.reduceSub, Nat.reduceMul, Nat.reduceLT, Nat.reduceLeDiff, Nat.reduceEqDiff, Int.cast_ofNat_Int, Std.le_refl, and_self, Int.toNat_natCast, Int.toNat_zero, Nat.le_refl]
    | some v =>
      rw [hw, Option.isSome_some] at e118
      have e117 := fun Q => c117v (L := L) (σ := σ) (Q := Q) hr hl hn hw hk
      have hle := nvk_in hVS hn hw (k + 1)
      by_cases q : 0 ≤ (nt 0 v (k + 1) : Int) + z ∧ (nt 0 v (k + 1) : Int) + z ≤ 99
      · simp (disch := first | exact cat_i _ | exact cat_r _ | exact cat_n | omega) only [u157_47, u157_48, u157_51, u157_52, u157_55, u157_56, u157_57, u157_60, u157_63, u157_64, u157_65, u157_66, u157_68, u157_69, u157_72, u157_73, u157_74, u157_77, u157_80, u157_81, u157_84, u157_85, u157_86, u157_89, hT_102, e118, e117, c115, zI_dt q, nvk, Bool.true_and, if_pos, if_neg, ↓reduceIte, false_and, and_false, false_or, or_false, ite_not, decide_true, decide_false, Bool.true_eq_false, Bool.false_eq_true, decide_eq_true_eq, decide_eq_false_iff_not, hp_I, hp_sI, hp_N, ev_k_s, ev_k_n, true_and, and_true, true_or, or_true, not_true_eq_false, not_false_eq_true, if_true, if_false, ite_self, Option.some.injEq, exists_eq_left', nb_0, nb_1, nb_z, zI_t, zI_f, zI_e, cat_i, cat_r, cat_n, iI_add, iI_sub, iI_mul, iI_neg, iI_lt, iI_le, iI_eq, iI_idx, iI_inT, iI_ne0, ite_false, ite_true, iN_0, iN_1, Int.reduceAdd, Int.reduceSub, Int.reduceMul, Int.reduceNeg, Int.reduceDiv, Int.reduceMod, Int.reduceEq, Int.reduceLT, Int.reduceLE, Int.reduceToNat, Nat.reduceAdd, Nat.reduceSub, Nat.reduceMul, Nat.reduceLT, Nat.reduceLeDiff, Nat.reduceEqDiff, Int.cast_ofNat_Int, Std.le_refl, and_self, Int.toNat_natCast, Int.toNat_zero, Nat.le_refl]
      · simp (disch := first | exact cat_i _ | exact cat_r _ | exact cat_n | omega) only [u157_47, u157_48, u157_51, u157_52, u157_55, u157_56, u157_57, u157_60, u157_63, u157_64, u157_65, u157_66, u157_68, u157_69, u157_72, u157_73, u157_74, u157_77, u157_80, u157_81, u157_84, u157_85, u157_86, u157_89, hT_102, e118, e117, c115, zI_df q, nvk, Bool.true_and, if_pos, if_neg, ↓reduceIte, false_and, and_false, false_or, or_false, ite_not, decide_true, decide_false, Bool.true_eq_false, Bool.false_eq_true, decide_eq_true_eq, decide_eq_false_iff_not, hp_I, hp_sI, hp_N, ev_k_s, ev_k_n, true_and, and_true, true_or, or_true, not_true_eq_false, not_false_eq_true, if_true, if_false, ite_self, Option.some.injEq, exists_eq_left', nb_0, nb_1, nb_z, zI_t, zI_f, zI_e, cat_i, cat_r, cat_n, iI_add, iI_sub, iI_mul, iI_neg, iI_lt, iI_le, iI_eq, iI_idx, iI_inT, iI_ne0, ite_false, ite_true, iN_0, iN_1, Int.reduceAdd, Int.reduceSub, Int.reduceMul, Int.reduceNeg, Int.reduceDiv, Int.reduceMod, Int.reduceEq, Int.reduceLT, Int.reduceLE, Int.reduceToNat, Nat.reduceAdd, Nat.reduceSub, Nat.reduceMul, Nat.reduceLT, Nat.reduceLeDiff, Nat.reduceEqDiff, Int.cast_ofNat_Int, Std.le_refl, and_self, Int.toNat_natCast, Int.toNat_zero, Nat.le_refl]
theorem mvk_n (S : Co) (z : Int) (k : Nat) : mvk S z k = (decide (36 ≤ ((ch S k).1 : Int) + z ∧ ((ch S k).1 : Int) + z ≤ 59) && nvk z (ch S k).2.2 0 && nvk z (ch S k).2.2 1 && nvk z (ch S k).2.2 2) := by
  unfold mvk nvk
  cases (ch S k).2.2 with
  | none => simp
  | some v =>
    dsimp only
    have n1 : nt 0 v (0 + 1) = v.1 := rfl
    have n2 : nt 0 v (1 + 1) = v.2.1 := rfl
    have n3 : nt 0 v (2 + 1) = v.2.2 := rfl
    rw [n1, n2, n3, Bool.and_assoc, Bool.and_assoc, ← Bool.decide_and (p := 0 ≤ (v.2.1 : Int) + z ∧ (v.2.1 : Int) + z ≤ 99), ← Bool.decide_and (p := 0 ≤ (v.1 : Int) + z ∧ (v.1 : Int) + z ≤ 99)]
theorem fold_all (f : Nat → Bool) : ∀ (l : List Nat) (a : Bool), l.foldl (fun a k => a && f k) a = (a && l.all f)
  | [], a => by simp
  | k :: l, a => by
    rw [List.foldl_cons, fold_all f l, List.all_cons, Bool.and_assoc]
/-- canMove -/
theorem c157 (hr : RepS I 103 0 S) (hVS : VS S) (hz1 : -12 ≤ z) (hz2 : z ≤ 12) : ev_c 157 [.ref 102, .int (iI z)] (hp L σ I) Q = Q (some (.int (zI (mvo S z)))) (hp L σ I) := by
  have hl := hVS.2.2.2.1
  have h0 := hr.1
  have lp := lf0 (fun (a : Bool × Value) (k : Nat) => ev_w 157 4 [.ref 102, .int (iI z), .int (zI a.1), .int (iI (k : Int)), a.2] [] (hp L σ I) Q) (fun a c => (a.1 && mvk S z c, .int (iI 3))) (fun a _ => a.2.category = 1) S.2.length (fun a k hk ha => ⟨cat_i _, by
    obtain ⟨can, x⟩ := a
    dsimp only at ha
    have hb := bass_le hVS hk
    have e0 := fun Q => c117_0 (L := L) (σ := σ) (Q := Q) hr hl hk
    have t := fun can => (c157v (L := L) (σ := σ) (Q := Q) (can := can) (k := 0) hr hVS hk hz1 hz2 (by omega)).trans ((c157v (L := L) (σ := σ) (Q := Q) (k := 1) hr hVS hk hz1 hz2 (by omega)).trans (c157v (L := L) (σ := σ) (Q := Q) (k := 2) hr hVS hk hz1 hz2 (by omega)))
    have t2 : ∀ can, ev_w 157 45 [.ref 102, .int (iI z), .int (zI can), .int (iI (k : Int)), .int (iI 0)] [] (hp L σ I) Q = ev_w 157 4 [.ref 102, .int (iI z), .int (zI (can && nvk z (ch S k).2.2 0 && nvk z (ch S k).2.2 1 && nvk z (ch S k).2.2 2)), .int (iI ((k : Int) + 1)), .int (iI 3)] [] (hp L σ I) Q := fun can => by
      refine Eq.trans (t can) ?_
      show ev_w 157 45 [.ref 102, .int (iI z), .int (zI (can && nvk z (ch S k).2.2 0 && nvk z (ch S k).2.2 1 && nvk z (ch S k).2.2 2)), .int (iI (k : Int)), .int (iI 3)] [] (hp L σ I) Q = _
      generalize (can && nvk z (ch S k).2.2 0 && nvk z (ch S k).2.2 1 && nvk z (ch S k).2.2 2) = g
      clear t
      simp (disch := first | exact cat_i _ | exact cat_r _ | exact cat_n | omega) only [u157_45, u157_47, u157_48, u157_92, u157_95, hT_102, if_pos, if_neg, ↓reduceIte, false_and, and_false, false_or, or_false, ite_not, decide_true, decide_false, Bool.true_eq_false, Bool.false_eq_true, decide_eq_true_eq, decide_eq_false_iff_not, hp_I, hp_sI, hp_N, ev_k_s, ev_k_n, true_and, and_true, true_or, or_true, not_true_eq_false, not_false_eq_true, if_true, if_false, ite_self, Option.some.injEq, exists_eq_left', nb_0, nb_1, nb_z, zI_t, zI_f, zI_e, cat_i, cat_r, cat_n, iI_add, iI_sub, iI_mul, iI_neg, iI_lt, iI_le, iI_eq, iI_idx, iI_inT, iI_ne0, ite_false, ite_true, iN_0, iN_1, Int.reduceAdd, Int.reduceSub, Int.reduceMul, Int.reduceNeg, Int.reduceDiv, Int.reduceMod, Int.reduceEq, Int.reduceLT, Int.reduceLE, Int.reduceToNat, Nat.reduceAdd, Nat.reduceSub, Nat.reduceMul, Nat.reduceLT, Nat.reduceLeDiff, Nat.reduceEqDiff, Int.cast_ofNat_Int, Std.le_refl, and_self, Int.toNat_natCast, Int.toNat_zero, Nat.le_refl]
    clear t
    show ev_w 157 4 [.ref 102, .int (iI z), .int (zI can), .int (iI (k : Int)), x] [] (hp L σ I) Q = ev_w 157 4 [.ref 102, .int (iI z), .int (zI (can && mvk S z k)), .int (iI ((k : Int) + 1)), .int (iI 3)] [] (hp L σ I) Q
    rw [mvk_n, u157_4, ← Bool.and_assoc, ← Bool.and_assoc, ← Bool.and_assoc]
    refine Eq.trans ?_ (t2 _)
    clear t2
    cases can with
    | false => simp (disch := first | exact ha | exact cat_i _ | exact cat_r _ | omega) only [u157_5, u157_6, u157_9, u157_10, u157_11, u157_14, u157_15, u157_18, u157_19, u157_20, u157_21, u157_24, u157_25, u157_26, u157_28, u157_30, u157_33, u157_36, u157_37, u157_40, u157_41, u157_42, u157_43, hT_102, hT_103, hR_102_0, h0, Bool.false_and, if_pos, if_neg, ↓reduceIte, false_and, and_false, false_or, or_false, ite_not, decide_true, decide_false, Bool.true_eq_false, Bool.false_eq_true, decide_eq_true_eq, decide_eq_false_iff_not, hp_I, hp_sI, hp_N, ev_k_s, ev_k_n, true_and, and_true, true_or, or_true, not_true_eq_false, not_false_eq_true, if_true, if_false, ite_self, Option.some.injEq, exists_eq_left', nb_0, nb_1, nb_z, zI_t, zI_f, zI_e, cat_i, cat_r, cat_n, iI_add, iI_sub, iI_mul, iI_neg, iI_lt, iI_le, iI_eq, iI_idx, iI_inT, iI_ne0, ite_false, ite_true, iN_0, iN_1, Int.reduceAdd, Int.reduceSub, Int.reduceMul, Int.reduceNeg, Int.reduceDiv, Int.reduceMod, Int.reduceEq, Int.reduceLT, Int.reduceLE, Int.reduceToNat, Nat.reduceAdd, Nat.reduceSub, Nat.reduceMul, Nat.reduceLT, Nat.reduceLeDiff, Nat.reduceEqDiff, Int.cast_ofNat_Int, Std.le_refl, and_self, Int.toNat_natCast, Int.toNat_zero, Nat.le_refl]
    | true =>
      by_cases q : 36 ≤ ((ch S k).1 : Int) + z ∧ ((ch S k).1 : Int) + z ≤ 59
      · simp (disch := first | exact ha | exact cat_i _ | exact cat_r _ | omega) only [u157_5, u157_6, u157_9, u157_10, u157_11, u157_14, u157_15, u157_18, u157_19, u157_20, u157_21, u157_24, u157_25, u157_26, u157_28, u157_30, u157_33, u157_36, u157_37, u157_40, u157_41, u157_42, u157_43, hT_102, hT_103, hR_102_0, h0, e0, c113, zI_dt q, Bool.true_and, if_pos, if_neg, ↓reduceIte, false_and, and_false, false_or, or_false, ite_not, decide_true, decide_false, Bool.true_eq_false, Bool.false_eq_true, decide_eq_true_eq, decide_eq_false_iff_not, hp_I, hp_sI, hp_N, ev_k_s, ev_k_n, true_and, and_true, true_or, or_true, not_true_eq_false, not_false_eq_true, if_true, if_false, ite_self, Option.some.injEq, exists_eq_left', nb_0, nb_1, nb_z, zI_t, zI_f, zI_e, cat_i, cat_r, cat_n, iI_add, iI_sub, iI_mul, iI_neg, iI_lt, iI_le, iI_eq, iI_idx, iI_inT, iI_ne0, ite_false, ite_true, iN_0, iN_1, Int.reduceAdd, Int.reduceSub, Int.reduceMul, Int.reduceNeg, Int.reduceDiv, Int.reduceMod, Int.reduceEq, Int.reduceLT, Int.reduceLE, Int.reduceToNat, Nat.reduceAdd, Nat.reduceSub, Nat.reduceMul, Nat.reduceLT, Nat.reduceLeDiff, Nat.reduceEqDiff, Int.cast_ofNat_Int, Std.le_refl, and_self, Int.toNat_natCast, Int.toNat_zero, Nat.le_refl]
      · simp (disch := first | exact ha | exact cat_i _ | exact cat_r _ | omega) only [u157_5, u157_6, u157_9, u157_10, u157_11, u157_14, u157_15, u157_18, u157_19, u157_20, u157_21, u157_24, u157_25, u157_26, u157_28, u157_30, u157_33, u157_36, u157_37, u157_40, u157_41, u157_42, u157_43, hT_102, hT_103, hR_102_0, h0, e0, c113, zI_df q, Bool.true_and, if_pos, if_neg, ↓reduceIte, false_and, and_false, false_or, or_false, ite_not, decide_true, decide_false, Bool.true_eq_false, Bool.false_eq_true, decide_eq_true_eq, decide_eq_false_iff_not, hp_I, hp_sI, hp_N, ev_k_s, ev_k_n, true_and, and_true, true_or, or_true, not_true_eq_false, not_false_eq_true, if_true, if_false, ite_self, Option.some.injEq, exists_eq_left', nb_0, nb_1, nb_z, zI_t, zI_f, zI_e, cat_i, cat_r, cat_n, iI_add, iI_sub, iI_mul, iI_neg, iI_lt, iI_le, iI_eq, iI_idx, iI_inT, iI_ne0, ite_false, ite_true, iN_0, iN_1, Int.reduceAdd, Int.reduceSub, Int.reduceMul, Int.reduceNeg, Int.reduceDiv, Int.reduceMod, Int.reduceEq, Int.reduceLT, Int.reduceLE, Int.reduceToNat, Nat.reduceAdd, Nat.reduceSub, Nat.reduceMul, Nat.reduceLT, Nat.reduceLeDiff, Nat.reduceEqDiff, Int.cast_ofNat_Int, Std.le_refl, and_self, Int.toNat_natCast, Int.toNat_zero, Nat.le_refl]⟩) (true, .null) rfl
  obtain ⟨lp, lc⟩ := lp
  have hfold : ((List.range S.2.length).foldl (fun (a : Bool × Value) c => (a.1 && mvk S z c, .int (iI 3))) (true, .null)).1 = mvo S z := by
    rw [fold_1 (fun a c => a && mvk S z c) (fun _ => Value.int (iI 3)), fold_all, Bool.true_and]
    rfl
  generalize (List.range S.2.length).foldl (fun (a : Bool × Value) c => (a.1 && mvk S z c, Value.int (iI 3))) (true, .null) = g at *
  rw [← hfold]
  simp (disch := first | exact cat_i _ | exact cat_r _ | exact cat_n | omega) only [u157_0, u157_1, u157_2, u157_3, e157, if_pos, if_neg, ↓reduceIte, false_and, and_false, false_or, or_false, ite_not, decide_true, decide_false, Bool.true_eq_false, Bool.false_eq_true, decide_eq_true_eq, decide_eq_false_iff_not, hp_I, hp_sI, hp_N, ev_k_s, ev_k_n, true_and, and_true, true_or, or_true, not_true_eq_false, not_false_eq_true, if_true, if_false, ite_self, Option.some.injEq, exists_eq_left', nb_0, nb_1, nb_z, zI_t, zI_f, zI_e, cat_i, cat_r, cat_n, iI_add, iI_sub, iI_mul, iI_neg, iI_lt, iI_le, iI_eq, iI_idx, iI_inT, iI_ne0, ite_false, ite_true, iN_0, iN_1, Int.reduceAdd, Int.reduceSub, Int.reduceMul, Int.reduceNeg, Int.reduceDiv, Int.reduceMod, Int.reduceEq, Int.reduceLT, Int.reduceLE, Int.reduceToNat, Nat.reduceAdd, Nat.reduceSub, Nat.reduceMul, Nat.reduceLT, Nat.reduceLeDiff, Nat.reduceEqDiff, Int.cast_ofNat_Int, Std.le_refl, and_self, Int.toNat_natCast, Int.toNat_zero, Nat.le_refl]
  refine Eq.trans lp ?_
  simp (disch := first | exact lc | exact cat_i _ | exact cat_r _ | omega) only [u157_4, u157_5, u157_6, u157_9, u157_10, u157_11, u157_98, u157_99, hT_102, hT_103, hR_102_0, h0, if_pos, if_neg, ↓reduceIte, false_and, and_false, false_or, or_false, ite_not, decide_true, decide_false, Bool.true_eq_false, Bool.false_eq_true, decide_eq_true_eq, decide_eq_false_iff_not, hp_I, hp_sI, hp_N, ev_k_s, ev_k_n, true_and, and_true, true_or, or_true, not_true_eq_false, not_false_eq_true, if_true, if_false, ite_self, Option.some.injEq, exists_eq_left', nb_0, nb_1, nb_z, zI_t, zI_f, zI_e, cat_i, cat_r, cat_n, iI_add, iI_sub, iI_mul, iI_neg, iI_lt, iI_le, iI_eq, iI_idx, iI_inT, iI_ne0, ite_false, ite_true, iN_0, iN_1, Int.reduceAdd, Int.reduceSub, Int.reduceMul, Int.reduceNeg, Int.reduceDiv, Int.reduceMod, Int.reduceEq, Int.reduceLT, Int.reduceLE, Int.reduceToNat, Nat.reduceAdd, Nat.reduceSub, Nat.reduceMul, Nat.reduceLT, Nat.reduceLeDiff, Nat.reduceEqDiff, Int.cast_ofNat_Int, Std.le_refl, and_self, Int.toNat_natCast, Int.toNat_zero, Nat.le_refl]
/-- has, where a change is under way -/
theorem c118h {len : Nat} {hs : Bool} (h0 : I 103 0 = iI (len : Int)) (hl : len ≤ 10) (hn : n < len) (hh : I 103 (1 + 6 * n + 2) = zI hs) : ev_c 118 [.ref 102, .int (iI (n : Int))] (hp L σ I) Q = Q (some (.int (zI hs))) (hp L σ I) := by
  have e116 : ∀ Q : Option Value → fb_H → Prop, ev_c 116 [.ref 102, .int (iI (n : Int))] (hp L σ I) Q = Q (some (.int (iI 1))) (hp L σ I) := fun Q => by
    have hd : (0 : Int) ≤ (n : Int) ∧ (n : Int) ≤ (len : Int) - 1 := by omega
    simp (disch := first | exact cat_i _ | exact cat_r _ | exact cat_n | omega) only [e116, u116_0, u116_1, u116_2, u116_3, u116_6, u116_7, u116_8, u116_9, u116_10, u116_13, hT_102, hT_103, hR_102_0, h0, c113, zI_dt hd, ↓reduceIte, false_and, and_false, false_or, or_false, ite_not, decide_true, decide_false, Bool.true_eq_false, Bool.false_eq_true, decide_eq_true_eq, decide_eq_false_iff_not, hp_I, hp_sI, hp_N, ev_k_s, ev_k_n, true_and, and_true, true_or, or_true, not_true_eq_false, not_false_eq_true, if_true, if_false, ite_self, Option.some.injEq, exists_eq_left', nb_0, nb_1, nb_z, zI_t, zI_f, zI_e, cat_i, cat_r, cat_n, iI_add, iI_sub, iI_mul, iI_neg, iI_lt, iI_le, iI_eq, iI_idx, iI_inT, iI_ne0, ite_false, ite_true, iN_0, iN_1, Int.reduceAdd, Int.reduceSub, Int.reduceMul, Int.reduceNeg, Int.reduceDiv, Int.reduceMod, Int.reduceEq, Int.reduceLT, Int.reduceLE, Int.reduceToNat, Nat.reduceAdd, Nat.reduceSub, Nat.reduceMul, Nat.reduceLT, Nat.reduceLeDiff, Nat.reduceEqDiff, Int.cast_ofNat_Int, Std.le_refl, and_self, Int.toNat_natCast, Int.toNat_zero, Nat.le_refl]
  have e117 := fun Q => c117 (L := L) (σ := σ) (Q := Q) (I := I) (n := n) (k := 2) (by omega) (by omega)
  rw [hh] at e117
  simp only [Int.cast_ofNat_Int] at e117
  cases hs
  · simp (disch := first | exact cat_i _ | exact cat_r _ | exact cat_n | omega) only [e118, u118_0, u118_1, u118_2, u118_5, u118_8, u118_9, u118_10, u118_11, u118_14, u118_15, u118_18, u118_19, u118_22, u118_23, hT_102, e116, e117, if_pos, if_neg, ↓reduceIte, false_and, and_false, false_or, or_false, ite_not, decide_true, decide_false, Bool.true_eq_false, Bool.false_eq_true, decide_eq_true_eq, decide_eq_false_iff_not, hp_I, hp_sI, hp_N, ev_k_s, ev_k_n, true_and, and_true, true_or, or_true, not_true_eq_false, not_false_eq_true, if_true, if_false, ite_self, Option.some.injEq, exists_eq_left', nb_0, nb_1, nb_z, zI_t, zI_f, zI_e, cat_i, cat_r, cat_n, iI_add, iI_sub, iI_mul, iI_neg, iI_lt, iI_le, iI_eq, iI_idx, iI_inT, iI_ne0, ite_false, ite_true, iN_0, iN_1, Int.reduceAdd, Int.reduceSub, Int.reduceMul, Int.reduceNeg, Int.reduceDiv, Int.reduceMod, Int.reduceEq, Int.reduceLT, Int.reduceLE, Int.reduceToNat, Nat.reduceAdd, Nat.reduceSub, Nat.reduceMul, Nat.reduceLT, Nat.reduceLeDiff, Nat.reduceEqDiff, Int.cast_ofNat_Int, Std.le_refl, and_self, Int.toNat_natCast, Int.toNat_zero, Nat.le_refl]
  · simp (disch := first | exact cat_i _ | exact cat_r _ | exact cat_n | omega) only [e118, u118_0, u118_1, u118_2, u118_5, u118_8, u118_9, u118_10, u118_11, u118_14, u118_15, u118_18, u118_19, u118_22, u118_23, hT_102, e116, e117, if_pos, if_neg, ↓reduceIte, false_and, and_false, false_or, or_false, ite_not, decide_true, decide_false, Bool.true_eq_false, Bool.false_eq_true, decide_eq_true_eq, decide_eq_false_iff_not, hp_I, hp_sI, hp_N, ev_k_s, ev_k_n, true_and, and_true, true_or, or_true, not_true_eq_false, not_false_eq_true, if_true, if_false, ite_self, Option.some.injEq, exists_eq_left', nb_0, nb_1, nb_z, zI_t, zI_f, zI_e, cat_i, cat_r, cat_n, iI_add, iI_sub, iI_mul, iI_neg, iI_lt, iI_le, iI_eq, iI_idx, iI_inT, iI_ne0, ite_false, ite_true, iN_0, iN_1, Int.reduceAdd, Int.reduceSub, Int.reduceMul, Int.reduceNeg, Int.reduceDiv, Int.reduceMod, Int.reduceEq, Int.reduceLT, Int.reduceLE, Int.reduceToNat, Nat.reduceAdd, Nat.reduceSub, Nat.reduceMul, Nat.reduceLT, Nat.reduceLeDiff, Nat.reduceEqDiff, Int.cast_ofNat_Int, Std.le_refl, and_self, Int.toNat_natCast, Int.toNat_zero, Nat.le_refl]
theorem c158v {len k : Nat} {hs : Bool} (h0 : I 103 0 = iI (len : Int)) (hl : len ≤ 10) (hn : n < len) (hh : I 103 (1 + 6 * n + 2) = zI hs) (hk : k < 3) (ha : I 103 (1 + 6 * n + 3 + k) = iI x) : ev_w 158 60 [.ref 102, .int (iI z), .int (iI (n : Int)), .int (iI (k : Int))] [] (hp L σ I) Q = ev_w 158 60 [.ref 102, .int (iI z), .int (iI (n : Int)), .int (iI ((k : Int) + 1))] [] (hp L σ (fb_u2 I 103 (1 + 6 * n + 3 + k) (iI (x + if hs = true then z else 0)))) Q := by
  have e118 := fun Q => c118h (L := L) (σ := σ) (Q := Q) h0 hl hn hh
  have f1 : (1 + 6 * (n : Int) + 3 + (k : Int)).toNat = 1 + 6 * n + 3 + k := by omega
  rw [u158_60]
  cases hs
  · simp (disch := first | exact cat_i _ | exact cat_r _ | exact cat_n | omega) only [u158_61, u158_62, u158_65, u158_66, u158_69, u158_70, u158_72, u158_73, u158_74, u158_75, u158_76, u158_77, u158_78, u158_79, u158_80, u158_81, u158_82, u158_83, u158_86, u158_89, u158_90, u158_93, u158_94, u158_95, u158_96, u158_99, hT_102, hT_103, hR_102_0, f1, ha, e118, if_pos, if_neg, ↓reduceIte, false_and, and_false, false_or, or_false, ite_not, decide_true, decide_false, Bool.true_eq_false, Bool.false_eq_true, decide_eq_true_eq, decide_eq_false_iff_not, hp_I, hp_sI, hp_N, ev_k_s, ev_k_n, true_and, and_true, true_or, or_true, not_true_eq_false, not_false_eq_true, if_true, if_false, ite_self, Option.some.injEq, exists_eq_left', nb_0, nb_1, nb_z, zI_t, zI_f, zI_e, cat_i, cat_r, cat_n, iI_add, iI_sub, iI_mul, iI_neg, iI_lt, iI_le, iI_eq, iI_idx, iI_inT, iI_ne0, ite_false, ite_true, iN_0, iN_1, Int.reduceAdd, Int.reduceSub, Int.reduceMul, Int.reduceNeg, Int.reduceDiv, Int.reduceMod, Int.reduceEq, Int.reduceLT, Int.reduceLE, Int.reduceToNat, Nat.reduceAdd, Nat.reduceSub, Nat.reduceMul, Nat.reduceLT, Nat.reduceLeDiff, Nat.reduceEqDiff, Int.cast_ofNat_Int, Std.le_refl, and_self, Int.toNat_natCast, Int.toNat_zero, Nat.le_refl]
  · simp (disch := first | exact cat_i _ | exact cat_r _ | exact cat_n | omega) only [u158_61, u158_62, u158_65, u158_66, u158_69, u158_70, u158_72, u158_73, u158_74, u158_75, u158_76, u158_77, u158_78, u158_79, u158_80, u158_81, u158_82, u158_83, u158_86, u158_89, u158_90, u158_93, u158_94, u158_95, u158_96, u158_99, hT_102, hT_103, hR_102_0, f1, ha, e118, if_pos, if_neg, ↓reduceIte, false_and, and_false, false_or, or_false, ite_not, decide_true, decide_false, Bool.true_eq_false, Bool.false_eq_true, decide_eq_true_eq, decide_eq_false_iff_not, hp_I, hp_sI, hp_N, ev_k_s, ev_k_n, true_and, and_true, true_or, or_true, not_true_eq_false, not_false_eq_true, if_true, if_false, ite_self, Option.some.injEq, exists_eq_left', nb_0, nb_1, nb_z, zI_t, zI_f, zI_e, cat_i, cat_r, cat_n, iI_add, iI_sub, iI_mul, iI_neg, iI_lt, iI_le, iI_eq, iI_idx, iI_inT, iI_ne0, ite_false, ite_true, iN_0, iN_1, Int.reduceAdd, Int.reduceSub, Int.reduceMul, Int.reduceNeg, Int.reduceDiv, Int.reduceMod, Int.reduceEq, Int.reduceLT, Int.reduceLE, Int.reduceToNat, Nat.reduceAdd, Nat.reduceSub, Nat.reduceMul, Nat.reduceLT, Nat.reduceLeDiff, Nat.reduceEqDiff, Int.cast_ofNat_Int, Std.le_refl, and_self, Int.toNat_natCast, Int.toNat_zero, Nat.le_refl]
/-- one chord is moved -/
theorem c158c {len : Nat} {xc : Ch} {x3 : Value} (hx3 : x3.category = 1) (h0 : I 103 0 = iI (len : Int)) (hl : len ≤ 10) (hn : n < len) (hc : CC I (1 + 6 * n) xc) (hz1 : -12 ≤ z) (hz2 : z ≤ 12) (hb : 0 ≤ (xc.1 : Int) + z) (hv : ∀ v, xc.2.2 = some v → 0 ≤ (v.1 : Int) + z ∧ 0 ≤ (v.2.1 : Int) + z ∧ 0 ≤ (v.2.2 : Int) + z) : ∃ K, CC K (1 + 6 * n) (mvc z xc) ∧ (∀ i q, ¬ (i = 103 ∧ 1 + 6 * n ≤ q ∧ q < 1 + 6 * n + 6) → K i q = I i q) ∧ ∀ Q : Option Value → fb_H → Prop, ev_w 158 31 [.ref 102, .int (iI z), .int (iI (n : Int)), x3] [] (hp L σ I) Q = ev_w 158 31 [.ref 102, .int (iI z), .int (iI ((n + 1 : Nat) : Int)), .int (iI 3)] [] (hp L σ K) Q := by
  obtain ⟨c0, c1, c2, c3⟩ := hc
  obtain ⟨a3, -, -, g3⟩ := iI_of (I 103 (1 + 6 * n + 3))
  obtain ⟨a4, -, -, g4⟩ := iI_of (I 103 (1 + 6 * n + 4))
  obtain ⟨a5, -, -, g5⟩ := iI_of (I 103 (1 + 6 * n + 5))
  have f0 : (1 + 6 * (n : Int)).toNat = 1 + 6 * n := by omega
  have t0 := fun Q => c158v (L := L) (σ := σ) (Q := Q) (z := z) (n := n) (I := fb_u2 I 103 (1 + 6 * n) (iI ((xc.1 : Int) + z))) (x := a3) (k := 0) ((u2_ne (by omega)).trans h0) hl hn ((u2_ne (by omega)).trans c2) (by omega) ((u2_ne (by omega)).trans g3)
  have t1 := fun Q => c158v (L := L) (σ := σ) (Q := Q) (z := z) (n := n) (I := fb_u2 (fb_u2 I 103 (1 + 6 * n) (iI ((xc.1 : Int) + z))) 103 (1 + 6 * n + 3 + 0) (iI (a3 + if xc.2.2.isSome = true then z else 0))) (x := a4) (k := 1) ((u2_ne (by omega)).trans ((u2_ne (by omega)).trans h0)) hl hn ((u2_ne (by omega)).trans ((u2_ne (by omega)).trans c2)) (by omega) ((u2_ne (by omega)).trans ((u2_ne (by omega)).trans g4))
  have t2 := fun Q => c158v (L := L) (σ := σ) (Q := Q) (z := z) (n := n) (I := fb_u2 (fb_u2 (fb_u2 I 103 (1 + 6 * n) (iI ((xc.1 : Int) + z))) 103 (1 + 6 * n + 3 + 0) (iI (a3 + if xc.2.2.isSome = true then z else 0))) 103 (1 + 6 * n + 3 + 1) (iI (a4 + if xc.2.2.isSome = true then z else 0))) (x := a5) (k := 2) ((u2_ne (by omega)).trans ((u2_ne (by omega)).trans ((u2_ne (by omega)).trans h0))) hl hn ((u2_ne (by omega)).trans ((u2_ne (by omega)).trans ((u2_ne (by omega)).trans c2))) (by omega) ((u2_ne (by omega)).trans ((u2_ne (by omega)).trans ((u2_ne (by omega)).trans g5)))
  have tt := fun Q => (t0 Q).trans ((t1 Q).trans (t2 Q))
  clear t0 t1 t2
  have d0 : (((((xc.1 : Int) + z).toNat : Nat) : Int)) = (xc.1 : Int) + z := by omega
  refine ⟨fb_u2 (fb_u2 (fb_u2 (fb_u2 I 103 (1 + 6 * n) (iI ((xc.1 : Int) + z))) 103 (1 + 6 * n + 3 + 0) (iI (a3 + if xc.2.2.isSome = true then z else 0))) 103 (1 + 6 * n + 3 + 1) (iI (a4 + if xc.2.2.isSome = true then z else 0))) 103 (1 + 6 * n + 3 + 2) (iI (a5 + if xc.2.2.isSome = true then z else 0)), ⟨?_, ?_, ?_, fun v' e => ?_⟩, fun i q hi => ?_, fun Q => ?_⟩
  · rw [u2_ne (by omega), u2_ne (by omega), u2_ne (by omega), u2_eq]
    show _ = iI (((((xc.1 : Int) + z).toNat : Nat) : Int))
    rw [d0]
  · rw [u2_ne (by omega), u2_ne (by omega), u2_ne (by omega), u2_ne (by omega)]
    exact c1
  · rw [u2_ne (by omega), u2_ne (by omega), u2_ne (by omega), u2_ne (by omega), c2]
    show _ = zI (xc.2.2.map (mvv z)).isSome
    rw [Option.isSome_map]
  · have e' : xc.2.2.map (mvv z) = some v' := e
    cases hx : xc.2.2 with
    | none => rw [hx] at e'; cases e'
    | some v =>
      rw [hx] at e'
      cases e'
      obtain ⟨s3, s4, s5⟩ := c3 v hx
      obtain ⟨b1, b2, b3⟩ := hv v hx
      rw [Option.isSome_some, if_pos rfl]
      refine ⟨?_, ?_, ?_⟩
      · rw [u2_ne (by omega), u2_ne (by omega), u2_eq, ← iI_add, ← g3, s3, iI_add]
        congr 1
        show _ = (((((v.1 : Int) + z).toNat : Nat) : Int))
        omega
      · rw [u2_ne (by omega), u2_eq, ← iI_add, ← g4, s4, iI_add]
        congr 1
        show _ = (((((v.2.1 : Int) + z).toNat : Nat) : Int))
        omega
      · rw [u2_eq, ← iI_add, ← g5, s5, iI_add]
        congr 1
        show _ = (((((v.2.2 : Int) + z).toNat : Nat) : Int))
        omega
  · rw [u2_ne (by omega), u2_ne (by omega), u2_ne (by omega), u2_ne (by omega)]
  · have e0 := tt Q
    clear tt
    rw [u158_31]
    simp (disch := first | exact hx3 | exact cat_i _ | exact cat_r _ | omega) only [u158_32, u158_33, u158_36, u158_37, u158_38, u158_41, u158_42, u158_45, u158_46, u158_48, u158_49, u158_50, u158_51, u158_52, u158_53, u158_54, u158_55, u158_56, u158_57, u158_58, u158_59, hT_102, hT_103, hR_102_0, h0, f0, c0, Int.add_zero, if_pos, if_neg, ↓reduceIte, false_and, and_false, false_or, or_false, ite_not, decide_true, decide_false, Bool.true_eq_false, Bool.false_eq_true, decide_eq_true_eq, decide_eq_false_iff_not, hp_I, hp_sI, hp_N, ev_k_s, ev_k_n, true_and, and_true, true_or, or_true, not_true_eq_false, not_false_eq_true, if_true, if_false, ite_self, Option.some.injEq, exists_eq_left', nb_0, nb_1, nb_z, zI_t, zI_f, zI_e, cat_i, cat_r, cat_n, iI_add, iI_sub, iI_mul, iI_neg, iI_lt, iI_le, iI_eq, iI_idx, iI_inT, iI_ne0, ite_false, ite_true, iN_0, iN_1, Int.reduceAdd, Int.reduceSub, Int.reduceMul, Int.reduceNeg, Int.reduceDiv, Int.reduceMod, Int.reduceEq, Int.reduceLT, Int.reduceLE, Int.reduceToNat, Nat.reduceAdd, Nat.reduceSub, Nat.reduceMul, Nat.reduceLT, Nat.reduceLeDiff, Nat.reduceEqDiff, Int.cast_ofNat_Int, Std.le_refl, and_self, Int.toNat_natCast, Int.toNat_zero, Nat.le_refl]
    refine Eq.trans e0 ?_
    clear e0
    generalize fb_u2 (fb_u2 (fb_u2 (fb_u2 I 103 (1 + 6 * n) (iI ((xc.1 : Int) + z))) 103 (1 + 6 * n + 3 + 0) (iI (a3 + if xc.2.2.isSome = true then z else 0))) 103 (1 + 6 * n + 3 + 1) (iI (a4 + if xc.2.2.isSome = true then z else 0))) 103 (1 + 6 * n + 3 + 2) (iI (a5 + if xc.2.2.isSome = true then z else 0)) = G
    simp (disch := first | exact cat_i _ | exact cat_r _ | exact cat_n | omega) only [u158_60, u158_61, u158_62, u158_102, u158_105, Int.cast_ofNat_Int, Int.reduceAdd, if_pos, if_neg, ↓reduceIte, false_and, and_false, false_or, or_false, ite_not, decide_true, decide_false, Bool.true_eq_false, Bool.false_eq_true, decide_eq_true_eq, decide_eq_false_iff_not, hp_I, hp_sI, hp_N, ev_k_s, ev_k_n, true_and, and_true, true_or, or_true, not_true_eq_false, not_false_eq_true, if_true, if_false, ite_self, Option.some.injEq, exists_eq_left', nb_0, nb_1, nb_z, zI_t, zI_f, zI_e, cat_i, cat_r, cat_n, iI_add, iI_sub, iI_mul, iI_neg, iI_lt, iI_le, iI_eq, iI_idx, iI_inT, iI_ne0, ite_false, ite_true, iN_0, iN_1, Int.reduceAdd, Int.reduceSub, Int.reduceMul, Int.reduceNeg, Int.reduceDiv, Int.reduceMod, Int.reduceEq, Int.reduceLT, Int.reduceLE, Int.reduceToNat, Nat.reduceAdd, Nat.reduceSub, Nat.reduceMul, Nat.reduceLT, Nat.reduceLeDiff, Nat.reduceEqDiff, Int.cast_ofNat_Int, Std.le_refl, and_self, Int.toNat_natCast, Int.toNat_zero, Nat.le_refl]
    all_goals rfl
/-- transpose -/
theorem m158 (hM : RepM I A) (hA : AV A) (hz1' : -2147483648 ≤ z) (hz2' : z < 2147483648) : MR L σ I 158 [.ref 102, .int (iI z)] (opTr A z) := by
  have hl := hA.1.2.2.2.1
  unfold opTr
  by_cases hh : -12 ≤ z ∧ z ≤ 12
  · rw [if_neg (fun w => w hh)]
    have e157 := fun Q => c157 (L := L) (σ := σ) (Q := Q) hM.1 hA.1 hh.1 hh.2
    cases hmv : mvo A.1 z with
    | false =>
      rw [if_neg (by decide)]
      rw [hmv] at e157
      refine MR_id hM fun Q => ?_
      simp (disch := first | exact cat_i _ | exact cat_r _ | exact cat_n | omega) only [u158_0, u158_1, u158_3, u158_5, u158_8, u158_11, u158_13, u158_14, u158_15, u158_16, u158_19, u158_22, u158_24, e158, hT_102, c113, zI_dt hh, e157, if_pos, if_neg, ↓reduceIte, false_and, and_false, false_or, or_false, ite_not, decide_true, decide_false, Bool.true_eq_false, Bool.false_eq_true, decide_eq_true_eq, decide_eq_false_iff_not, hp_I, hp_sI, hp_N, ev_k_s, ev_k_n, true_and, and_true, true_or, or_true, not_true_eq_false, not_false_eq_true, if_true, if_false, ite_self, Option.some.injEq, exists_eq_left', nb_0, nb_1, nb_z, zI_t, zI_f, zI_e, cat_i, cat_r, cat_n, iI_add, iI_sub, iI_mul, iI_neg, iI_lt, iI_le, iI_eq, iI_idx, iI_inT, iI_ne0, ite_false, ite_true, iN_0, iN_1, Int.reduceAdd, Int.reduceSub, Int.reduceMul, Int.reduceNeg, Int.reduceDiv, Int.reduceMod, Int.reduceEq, Int.reduceLT, Int.reduceLE, Int.reduceToNat, Nat.reduceAdd, Nat.reduceSub, Nat.reduceMul, Nat.reduceLT, Nat.reduceLeDiff, Nat.reduceEqDiff, Int.cast_ofNat_Int, Std.le_refl, and_self, Int.toNat_natCast, Int.toNat_zero, Nat.le_refl]
    | true =>
      rw [if_pos rfl]
      rw [hmv] at e157
      obtain ⟨J, j1, j2, j3, j4⟩ := mchg (L := L) (σ := σ) hM hA
      obtain ⟨s0, s1, s2, s3⟩ := RepS_0 j2
      obtain ⟨⟨G, x3⟩, ⟨p1, p2, p3, p4, p5⟩, e⟩ := lx (fun Q (a : (Nat → Nat → Int32) × Value) (k : Nat) => ev_w 158 31 [.ref 102, .int (iI z), .int (iI (k : Int)), a.2] [] (hp L σ a.1) Q) (fun a k => a.2.category = 1 ∧ (∀ c, c < k → CC a.1 (1 + 6 * c) (mvc z (ch A.1 c))) ∧ (∀ c, k ≤ c → c < A.1.2.length → CC a.1 (1 + 6 * c) (ch A.1 c)) ∧ (∀ i q, i ≠ 103 → a.1 i q = J i q) ∧ ∀ q, (q = 0 ∨ 61 ≤ q) → a.1 103 q = J 103 q) A.1.2.length (fun a k hk hp' => by
        obtain ⟨B, x3⟩ := a
        obtain ⟨p1, p2, p3, p4, p5⟩ := hp'
        dsimp only at p1 p2 p3 p4 p5
        have hmk := mvo_k hmv hk
        have hb := mvk_b hmk
        obtain ⟨K, k1, k2, k3⟩ := c158c (L := L) (σ := σ) (z := z) p1 ((p5 0 (by omega)).trans s0) hl hk (p3 k (Nat.le_refl _) hk) hh.1 hh.2 (by omega) (fun v e => by have := mvk_v hmk e; omega)
        refine ⟨(K, .int (iI 3)), ⟨cat_i _, fun c hc => ?_, fun c hc hc2 => CC_o (p3 c (by omega) hc2) fun j hj => k2 _ _ (by omega), fun i q hi => (k2 _ _ (by omega)).trans (p4 i q hi), fun q hq => (k2 _ _ (by omega)).trans (p5 q hq)⟩, fun Q => k3 Q⟩
        by_cases q : c = k
        · subst q; exact k1
        · exact CC_o (p2 c (by omega)) fun j hj => k2 _ _ (by omega)) A.1.2.length 0 (J, .null) (by omega) ⟨rfl, fun c h => absurd h (Nat.not_lt_zero c), fun c _ hc => RepS_CC j2 hc, fun _ _ _ => rfl, fun _ _ => rfl⟩
      dsimp only at p1 p2 p3 p4 p5
      have hkey := hA.1.1
      have g0 : G 103 0 = iI (A.1.2.length : Int) := (p5 _ (by omega)).trans s0
      have g61 : G 103 61 = iI (A.1.1.1 : Int) := (p5 _ (by omega)).trans s1
      have hd : (((((A.1.1.1 : Int) + z) % 12).toNat : Nat) : Int) = ((A.1.1.1 : Int) + z + 12) % 12 := by omega
      have hRS : RepS (fb_u2 G 103 61 (iI (((A.1.1.1 : Int) + z + 12) % 12))) 103 0 (mov A.1 z) := by
        refine RepS_mk (by rw [len_mov]; exact (u2_ne (by omega)).trans g0) ?_ ((u2_ne (by omega)).trans ((p5 _ (by omega)).trans s2)) ((u2_ne (by omega)).trans ((p5 _ (by omega)).trans s3)) fun c hc => ?_
        · rw [u2_eq, ← hd]; rfl
        · rw [len_mov] at hc
          rw [ch_mov hc]
          exact CC_o (p2 c hc) fun j hj => u2_ne (by omega)
      obtain ⟨r1, r2⟩ := j4 _ _ hRS (fun i q a c => (u2_ne (by omega)).trans (p4 i q a))
      refine ⟨_, fun Q => ?_, r1, r2⟩
      have e0 := e Q
      clear e
      have e123 : ∀ Q : Option Value → fb_H → Prop, ev_c 123 [.ref 102] (hp L σ G) Q = Q (some (.int (iI (A.1.1.1 : Int)))) (hp L σ G) := fun Q => by
        simp (disch := first | exact cat_i _ | exact cat_r _ | exact cat_n | omega) only [e123, u123_0, u123_1, u123_4, u123_6, u123_7, hT_102, hT_103, hR_102_0, g61, ↓reduceIte, false_and, and_false, false_or, or_false, ite_not, decide_true, decide_false, Bool.true_eq_false, Bool.false_eq_true, decide_eq_true_eq, decide_eq_false_iff_not, hp_I, hp_sI, hp_N, ev_k_s, ev_k_n, true_and, and_true, true_or, or_true, not_true_eq_false, not_false_eq_true, if_true, if_false, ite_self, Option.some.injEq, exists_eq_left', nb_0, nb_1, nb_z, zI_t, zI_f, zI_e, cat_i, cat_r, cat_n, iI_add, iI_sub, iI_mul, iI_neg, iI_lt, iI_le, iI_eq, iI_idx, iI_inT, iI_ne0, ite_false, ite_true, iN_0, iN_1, Int.reduceAdd, Int.reduceSub, Int.reduceMul, Int.reduceNeg, Int.reduceDiv, Int.reduceMod, Int.reduceEq, Int.reduceLT, Int.reduceLE, Int.reduceToNat, Nat.reduceAdd, Nat.reduceSub, Nat.reduceMul, Nat.reduceLT, Nat.reduceLeDiff, Nat.reduceEqDiff, Int.cast_ofNat_Int, Std.le_refl, and_self, Int.toNat_natCast, Int.toNat_zero, Nat.le_refl]
      have e123' := fun Q => c123 (L := L) (σ := σ) (Q := Q) hRS
      show _ = Q (some (.int (iI (((mov A.1 z).1.1 : Nat) : Int)))) _
      clear r1 r2 hRS
      simp (disch := first | exact cat_i _ | exact cat_r _ | exact cat_n | omega) only [u158_0, u158_1, u158_3, u158_5, u158_8, u158_11, u158_13, u158_14, u158_15, u158_16, u158_19, u158_22, u158_24, u158_25, u158_26, u158_29, u158_30, e158, hT_102, c113, zI_dt hh, e157, j1, if_pos, if_neg, ↓reduceIte, false_and, and_false, false_or, or_false, ite_not, decide_true, decide_false, Bool.true_eq_false, Bool.false_eq_true, decide_eq_true_eq, decide_eq_false_iff_not, hp_I, hp_sI, hp_N, ev_k_s, ev_k_n, true_and, and_true, true_or, or_true, not_true_eq_false, not_false_eq_true, if_true, if_false, ite_self, Option.some.injEq, exists_eq_left', nb_0, nb_1, nb_z, zI_t, zI_f, zI_e, cat_i, cat_r, cat_n, iI_add, iI_sub, iI_mul, iI_neg, iI_lt, iI_le, iI_eq, iI_idx, iI_inT, iI_ne0, ite_false, ite_true, iN_0, iN_1, Int.reduceAdd, Int.reduceSub, Int.reduceMul, Int.reduceNeg, Int.reduceDiv, Int.reduceMod, Int.reduceEq, Int.reduceLT, Int.reduceLE, Int.reduceToNat, Nat.reduceAdd, Nat.reduceSub, Nat.reduceMul, Nat.reduceLT, Nat.reduceLeDiff, Nat.reduceEqDiff, Int.cast_ofNat_Int, Std.le_refl, and_self, Int.toNat_natCast, Int.toNat_zero, Nat.le_refl]
      refine Eq.trans e0 ?_
      simp (disch := first | exact p1 | exact cat_i _ | exact cat_r _ | omega) only [u158_31, u158_32, u158_33, u158_36, u158_37, u158_38, u158_108, u158_109, u158_112, u158_114, u158_115, u158_118, u158_119, u158_120, u158_122, u158_123, u158_125, u158_126, u158_127, u158_128, u158_131, hT_102, hT_103, hR_102_0, g0, e123, e123', iI_rem, if_pos, if_neg, ↓reduceIte, false_and, and_false, false_or, or_false, ite_not, decide_true, decide_false, Bool.true_eq_false, Bool.false_eq_true, decide_eq_true_eq, decide_eq_false_iff_not, hp_I, hp_sI, hp_N, ev_k_s, ev_k_n, true_and, and_true, true_or, or_true, not_true_eq_false, not_false_eq_true, if_true, if_false, ite_self, Option.some.injEq, exists_eq_left', nb_0, nb_1, nb_z, zI_t, zI_f, zI_e, cat_i, cat_r, cat_n, iI_add, iI_sub, iI_mul, iI_neg, iI_lt, iI_le, iI_eq, iI_idx, iI_inT, iI_ne0, ite_false, ite_true, iN_0, iN_1, Int.reduceAdd, Int.reduceSub, Int.reduceMul, Int.reduceNeg, Int.reduceDiv, Int.reduceMod, Int.reduceEq, Int.reduceLT, Int.reduceLE, Int.reduceToNat, Nat.reduceAdd, Nat.reduceSub, Nat.reduceMul, Nat.reduceLT, Nat.reduceLeDiff, Nat.reduceEqDiff, Int.cast_ofNat_Int, Std.le_refl, and_self, Int.toNat_natCast, Int.toNat_zero, Nat.le_refl]
  · rw [if_pos hh]
    refine MR_id hM fun Q => ?_
    simp (disch := first | exact cat_i _ | exact cat_r _ | exact cat_n | omega) only [u158_0, u158_1, u158_3, u158_5, u158_8, u158_11, u158_13, e158, hT_102, c113, zI_df hh, if_pos, if_neg, ↓reduceIte, false_and, and_false, false_or, or_false, ite_not, decide_true, decide_false, Bool.true_eq_false, Bool.false_eq_true, decide_eq_true_eq, decide_eq_false_iff_not, hp_I, hp_sI, hp_N, ev_k_s, ev_k_n, true_and, and_true, true_or, or_true, not_true_eq_false, not_false_eq_true, if_true, if_false, ite_self, Option.some.injEq, exists_eq_left', nb_0, nb_1, nb_z, zI_t, zI_f, zI_e, cat_i, cat_r, cat_n, iI_add, iI_sub, iI_mul, iI_neg, iI_lt, iI_le, iI_eq, iI_idx, iI_inT, iI_ne0, ite_false, ite_true, iN_0, iN_1, Int.reduceAdd, Int.reduceSub, Int.reduceMul, Int.reduceNeg, Int.reduceDiv, Int.reduceMod, Int.reduceEq, Int.reduceLT, Int.reduceLE, Int.reduceToNat, Nat.reduceAdd, Nat.reduceSub, Nat.reduceMul, Nat.reduceLT, Nat.reduceLeDiff, Nat.reduceEqDiff, Int.cast_ofNat_Int, Std.le_refl, and_self, Int.toNat_natCast, Int.toNat_zero, Nat.le_refl]
end ME
