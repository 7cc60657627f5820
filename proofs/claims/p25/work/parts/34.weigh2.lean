section WF
variable {Q : Option Value → fb_H → Prop} {n : Nat} {L t y : Nat} {σ : Nat → Nat} {I : Nat → Nat → Int32} {S : Co} {l : List (Nat × Nat × Nat)}
theorem c52 (ht : isp t) (hv : VS S) {c r : Nat} (hc : c < S.2.length) {J : Nat → Nat → Int32} (hr : RepP J t S) (hs : StI J) (hw0 : RepV J (82 + 2 * c) (chl S c)) (hw : c + 1 < S.2.length → RepV J (82 + 2 * (c + 1)) (chl S (c + 1))) (hrr : r < (chl S c).length) (hg : c + 1 < S.2.length → ∀ q, q < (chl S (c + 1)).length → J (61 + (c + 1)) q = iI ((tgc S (c + 1) q).1 : Int)) : ∃ K, (∀ Q : Option Value → fb_H → Prop, ev_c 52 [.ref 58, .ref t, .int (iI (c : Int)), .int (iI (r : Int))] (hp L σ J) Q = Q none (hp L σ K)) ∧ (∀ i q, ¬ ((i = 61 + c ∨ i = 72 + c) ∧ q = r) → K i q = J i q) ∧ K (61 + c) r = iI ((tgc S c r).1 : Int) ∧ ∀ q, (tgc S c r).2 = some q → K (72 + c) r = iI (q : Int) := by
  have hl := hv.2.2.2.1
  have hr20 : r < 20 := by have := hw0.2.1; omega
  have ht2 := isp_lt ht
  have ec : ((c : Int) + 1) = ((c + 1 : Nat) : Int) := by omega
  by_cases hlast : c + 1 = S.2.length
  · refine ⟨fb_u2 J (61 + c) r (iI 0), fun Q => ?_, fun i q h => u2_ne (by omega), by rw [tgc_last hlast, u2_eq]; rfl, fun q h => by rw [tgc_last hlast] at h; cases h⟩
    have e26 := fun Q => c26f (L := L) (σ := σ) (Q := Q) ht hr hv (c := ((c + 1 : Nat) : Int)) (by omega) (by omega) (by omega)
    simp (disch := first | exact cat_i _ | exact cat_r _ | exact cat_n | omega) only [u52_0, u52_1, u52_2, u52_3, u52_5, u52_6, u52_8, u52_11, u52_14, u52_15, u52_18, u52_19, u52_20, u52_21, u52_22, u52_23, e52, ec, hT_p ht, hT_58, hT_60, hR_58_1, hR_60, hT_61k, e26, if_pos, if_neg, ↓reduceIte, false_and, and_false, false_or, or_false, ite_not, decide_true, decide_false, Bool.true_eq_false, Bool.false_eq_true, decide_eq_true_eq, decide_eq_false_iff_not, hp_I, hp_sI, hp_N, ev_k_s, ev_k_n, true_and, and_true, true_or, or_true, not_true_eq_false, not_false_eq_true, if_true, if_false, ite_self, Option.some.injEq, exists_eq_left', nb_0, nb_1, nb_z, zI_t, zI_f, zI_e, cat_i, cat_r, cat_n, iI_add, iI_sub, iI_mul, iI_neg, iI_lt, iI_le, iI_eq, iI_idx, iI_inT, iI_ne0, ite_false, ite_true, iN_0, iN_1, Int.reduceAdd, Int.reduceSub, Int.reduceMul, Int.reduceNeg, Int.reduceDiv, Int.reduceMod, Int.reduceEq, Int.reduceLT, Int.reduceLE, Int.reduceToNat, Nat.reduceAdd, Nat.reduceSub, Nat.reduceMul, Nat.reduceLT, Nat.reduceLeDiff, Nat.reduceEqDiff, Int.cast_ofNat_Int, Std.le_refl, and_self, Int.toNat_natCast, Int.toNat_zero, Nat.le_refl]
  · have hc1 : c + 1 < S.2.length := by omega
    have hvv := RepV_in hw0 hrr
    have hw1 := hw hc1
    have hg1 := hg hc1
    have h20 := hw1.2.1
    rw [tgc_step hc1]
    generalize hV : (chl S c).getD r (0, 0, 0) = v at *
    obtain ⟨⟨J', acc, x11, x12⟩, ⟨p1, p2, p3, p4, p5, p6⟩, e⟩ := lx (fun Q (a : (Nat → Nat → Int32) × (Nat × Option Nat) × Value × Value) (k : Nat) => ev_w 52 84 [.ref 58, .ref t, .int (iI (c : Int)), .int (iI (r : Int)), .int (iI ((c + 1 : Nat) : Int)), .int (iI ((pkv v : Nat) : Int)), .int (iI ((pk4 (ch S c).1 v : Nat) : Int)), .int (iI ((tn S (c + 1) : Nat) : Int)), .int (zI ((ch S c).2.2.isSome && (ch S (c + 1)).2.2.isSome)), .int (iI (a.2.1.1 : Int)), .int (iI (k : Int)), a.2.2.1, a.2.2.2] [] (hp L σ a.1) Q) (fun a k => a.2.2.1.category = 1 ∧ a.2.2.2.category = 1 ∧ a.2.1.1 ≤ 1000000 ∧ a.2.1 = (List.range k).foldl (wst S c v (fun q => (tgc S (c + 1) q).1)) (1000000, none) ∧ (∀ i q, ¬ (i = 72 + c ∧ q = r) → a.1 i q = J i q) ∧ ∀ q, a.2.1.2 = some q → a.1 (72 + c) r = iI (q : Int)) (chl S (c + 1)).length (fun a k hk hp' => by
      obtain ⟨A, acc, x11, x12⟩ := a
      obtain ⟨p1, p2, p3, p4, p5, p6⟩ := hp'
      dsimp only at p1 p2 p3 p4 p5 p6
      have hrA : RepP A t S := RepP_o hr fun i q _ _ => p5 i q (by omega)
      have hsA : StI A := StI_o hs fun i q _ => p5 i q (by omega)
      have hwA : RepV A (82 + 2 * (c + 1)) (chl S (c + 1)) := RepV_o hw1 fun q => ⟨p5 _ _ (by omega), p5 _ _ (by omega)⟩
      obtain ⟨K, y11, y12, k1, k2, k3, k4, k5⟩ := c52i (L := L) (σ := σ) ht hv hc1 hr20 hvv hrA hsA hwA hk (g := fun q => (tgc S (c + 1) q).1) ((p5 _ _ (by omega)).trans (hg1 k hk)) (tgc_le ..) (a := acc) p3 p1 p2
      refine ⟨(K, wst S c v (fun q => (tgc S (c + 1) q).1) acc k, y11, y12), ⟨k1, k2, wst_le _ _ _ _ _ _ p3, ?_, fun i q h => (k3 i q h).trans (p5 i q h), fun q hq => ?_⟩, k5⟩
      · rw [List.range_succ, List.foldl_append, ← p4]; rfl
      · dsimp only at hq
        split at k4
        · rename_i e
          rcases k4 with e1 | ⟨e1, e2⟩
          · exact e1.trans (p6 q (e.symm.trans hq))
          · rw [e1] at hq; cases hq; exact e2
        · rw [k4.1] at hq; cases hq; exact k4.2) (chl S (c + 1)).length 0 (J, (1000000, none), .null, .null) (by omega) ⟨rfl, rfl, Nat.le_refl _, rfl, fun _ _ _ => rfl, fun q h => by cases h⟩
    dsimp only at p1 p2 p3 p4 p5 p6
    have hacc : acc = wgh S c v (fun q => (tgc S (c + 1) q).1) := p4
    rw [← hacc]
    refine ⟨fb_u2 J' (61 + c) r (iI (acc.1 : Int)), fun Q => ?_, fun i q h => (u2_ne (by omega)).trans (p5 i q (by omega)), u2_eq, fun q hq => (u2_ne (by omega)).trans (p6 q hq)⟩
    have e26 := fun Q => c26t (L := L) (σ := σ) (Q := Q) ht hr hv hc1
    have e72 := fun Q => c72 (L := L) (σ := σ) (Q := Q) (isv_w (k := c) (by omega)) hw0 hrr
    have hT := hT_v (L := L) (σ := σ) (I := J) (isv_w (k := c) (by omega))
    have e33 := fun Q => c33 (L := L) (σ := σ) (Q := Q) ht hr hv hc hvv
    have e37 := fun Q => c37 (L := L) (σ := σ) (Q := Q) ht hr hv hs hc1
    have e32 := fun Q => c32 (L := L) (σ := σ) (Q := Q) ht hr hv hc
    have e32' := fun Q => c32 (L := L) (σ := σ) (Q := Q) ht hr hv hc1
    rw [hV] at e72
    have e0 := e Q
    clear e
    have fin : ev_w 52 84 [.ref 58, .ref t, .int (iI (c : Int)), .int (iI (r : Int)), .int (iI ((c + 1 : Nat) : Int)), .int (iI ((pkv v : Nat) : Int)), .int (iI ((pk4 (ch S c).1 v : Nat) : Int)), .int (iI ((tn S (c + 1) : Nat) : Int)), .int (zI ((ch S c).2.2.isSome && (ch S (c + 1)).2.2.isSome)), .int (iI (acc.1 : Int)), .int (iI ((chl S (c + 1)).length : Int)), x11, x12] [] (hp L σ J') Q = Q none (hp L σ (fb_u2 J' (61 + c) r (iI (acc.1 : Int)))) := by
      have hwA : RepV J' (82 + 2 * (c + 1)) (chl S (c + 1)) := RepV_o hw1 fun q => ⟨p5 _ _ (by omega), p5 _ _ (by omega)⟩
      have e71 := fun Q => c71 (L := L) (σ := σ) (Q := Q) (isv_w (k := c + 1) (by omega)) hwA
      have hT' := hT_v (L := L) (σ := σ) (I := J') (isv_w (k := c + 1) (by omega))
      simp (disch := first | exact cat_i _ | exact cat_r _ | exact cat_n | omega) only [u52_84, u52_86, u52_87, u52_90, u52_92, u52_93, u52_96, u52_184, u52_185, u52_188, u52_189, u52_190, u52_191, u52_193, u52_194, hT_58, hT_59, hT_60, hR_58_0, hR_58_1, hR_59, hR_60, hT', hT_61k, e71, if_pos, if_neg, ↓reduceIte, false_and, and_false, false_or, or_false, ite_not, decide_true, decide_false, Bool.true_eq_false, Bool.false_eq_true, decide_eq_true_eq, decide_eq_false_iff_not, hp_I, hp_sI, hp_N, ev_k_s, ev_k_n, true_and, and_true, true_or, or_true, not_true_eq_false, not_false_eq_true, if_true, if_false, ite_self, Option.some.injEq, exists_eq_left', nb_0, nb_1, nb_z, zI_t, zI_f, zI_e, cat_i, cat_r, cat_n, iI_add, iI_sub, iI_mul, iI_neg, iI_lt, iI_le, iI_eq, iI_idx, iI_inT, iI_ne0, ite_false, ite_true, iN_0, iN_1, Int.reduceAdd, Int.reduceSub, Int.reduceMul, Int.reduceNeg, Int.reduceDiv, Int.reduceMod, Int.reduceEq, Int.reduceLT, Int.reduceLE, Int.reduceToNat, Nat.reduceAdd, Nat.reduceSub, Nat.reduceMul, Nat.reduceLT, Nat.reduceLeDiff, Nat.reduceEqDiff, Int.cast_ofNat_Int, Std.le_refl, and_self, Int.toNat_natCast, Int.toNat_zero, Nat.le_refl]
    have mid : ev_w 52 77 [.ref 58, .ref t, .int (iI (c : Int)), .int (iI (r : Int)), .int (iI ((c + 1 : Nat) : Int)), .int (iI ((pkv v : Nat) : Int)), .int (iI ((pk4 (ch S c).1 v : Nat) : Int)), .int (iI ((tn S (c + 1) : Nat) : Int)), .int (zI ((ch S c).2.2.isSome && (ch S (c + 1)).2.2.isSome)), .null, .null, .null, .null] [] (hp L σ J) Q = Q none (hp L σ (fb_u2 J' (61 + c) r (iI (acc.1 : Int)))) := by
      simp (disch := first | exact cat_i _ | exact cat_r _ | exact cat_n | omega) only [u52_77, u52_79, u52_81, u52_82, if_pos, if_neg, ↓reduceIte, false_and, and_false, false_or, or_false, ite_not, decide_true, decide_false, Bool.true_eq_false, Bool.false_eq_true, decide_eq_true_eq, decide_eq_false_iff_not, hp_I, hp_sI, hp_N, ev_k_s, ev_k_n, true_and, and_true, true_or, or_true, not_true_eq_false, not_false_eq_true, if_true, if_false, ite_self, Option.some.injEq, exists_eq_left', nb_0, nb_1, nb_z, zI_t, zI_f, zI_e, cat_i, cat_r, cat_n, iI_add, iI_sub, iI_mul, iI_neg, iI_lt, iI_le, iI_eq, iI_idx, iI_inT, iI_ne0, ite_false, ite_true, iN_0, iN_1, Int.reduceAdd, Int.reduceSub, Int.reduceMul, Int.reduceNeg, Int.reduceDiv, Int.reduceMod, Int.reduceEq, Int.reduceLT, Int.reduceLE, Int.reduceToNat, Nat.reduceAdd, Nat.reduceSub, Nat.reduceMul, Nat.reduceLT, Nat.reduceLeDiff, Nat.reduceEqDiff, Int.cast_ofNat_Int, Std.le_refl, and_self, Int.toNat_natCast, Int.toNat_zero, Nat.le_refl]
      exact e0.trans fin
    cases hb1 : (ch S c).2.2.isSome <;> cases hb2 : (ch S (c + 1)).2.2.isSome
    all_goals
      rw [hb1, hb2] at mid
      simp (disch := first | exact cat_i _ | exact cat_r _ | exact cat_n | omega) only [u52_0, u52_1, u52_2, u52_3, u52_5, u52_6, u52_8, u52_11, u52_14, u52_15, u52_18, u52_19, u52_20, u52_21, u52_22, u52_23, u52_24, u52_25, u52_28, u52_29, u52_30, u52_31, u52_34, u52_36, u52_37, u52_38, u52_40, u52_43, u52_45, u52_46, u52_48, u52_51, u52_53, u52_54, u52_55, u52_58, u52_61, u52_62, u52_64, u52_67, u52_70, u52_71, u52_74, u52_75, e52, ec, hT_p ht, hT_58, hT_59, hR_58_0, hR_59, hT, e26, e72, e33, e37, e32, e32', hb1, hb2, Bool.and_true, Bool.and_false, if_pos, if_neg, ↓reduceIte, false_and, and_false, false_or, or_false, ite_not, decide_true, decide_false, Bool.true_eq_false, Bool.false_eq_true, decide_eq_true_eq, decide_eq_false_iff_not, hp_I, hp_sI, hp_N, ev_k_s, ev_k_n, true_and, and_true, true_or, or_true, not_true_eq_false, not_false_eq_true, if_true, if_false, ite_self, Option.some.injEq, exists_eq_left', nb_0, nb_1, nb_z, zI_t, zI_f, zI_e, cat_i, cat_r, cat_n, iI_add, iI_sub, iI_mul, iI_neg, iI_lt, iI_le, iI_eq, iI_idx, iI_inT, iI_ne0, ite_false, ite_true, iN_0, iN_1, Int.reduceAdd, Int.reduceSub, Int.reduceMul, Int.reduceNeg, Int.reduceDiv, Int.reduceMod, Int.reduceEq, Int.reduceLT, Int.reduceLE, Int.reduceToNat, Nat.reduceAdd, Nat.reduceSub, Nat.reduceMul, Nat.reduceLT, Nat.reduceLeDiff, Nat.reduceEqDiff, Int.cast_ofNat_Int, Std.le_refl, and_self, Int.toNat_natCast, Int.toNat_zero, Nat.le_refl] at mid ⊢
      exact mid
end WF
