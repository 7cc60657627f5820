/-- how the reading of a chord ends -/
def RdO (L : Nat) (σ : Nat → Nat) (I : Nat → Nat → Int32) (l : List Ch) (W : (Option Value → fb_H → Prop) → Prop) : Nat ⊕ (Ch × Nat) → Prop
  | .inl g => ∃ K, (∀ Q : Option Value → fb_H → Prop, W Q = Q (some (.int (iI 0))) (hp L σ K)) ∧ RepR K l g ∧ OthR I K
  | .inr x => ∃ K, (∀ Q : Option Value → fb_H → Prop, W Q = Q (some (.int (iI 1))) (hp L σ K)) ∧ RepR K (l ++ [x.1]) x.2 ∧ OthR I K
section RE
variable {L : Nat} {σ : Nat → Nat} {I J : Nat → Nat → Int32} {Q : Option Value → fb_H → Prop} {T : List Nat} {k e b f : Nat} {l : List Ch}
theorem c15t (hT : RepT I T) (hR : RepR I l k) (hl : l.length < 1000) (he : e < 600) (hf1 : 0 < f) (hf2 : f < 100) (hb : b ≤ 99) : RdO L σ I l (fun Q => ev_w 15 33 [.ref 52, .ref 50, .int (iI (b : Int)), .int (iI (f : Int)), .null] [] (hp L σ (nx I e)) Q) (rdE T b f e) := by
  have e21 := fun Q => c21 (L := L) (σ := σ) (Q := Q) (k := e) (c := 61) hT (by omega) (by omega)
  simp only [Int.cast_ofNat_Int] at e21
  unfold rdE
  by_cases q : sgn T e = 61
  · rw [if_pos q]
    have e18 := fun Q => c18 (L := L) (σ := σ) (Q := Q) (k := e + 1) hT (by omega)
    cases hv : rdV T (e + 1) with
    | inl g =>
      simp only [hv] at e18
      refine ⟨nx I g, fun Q => ?_, RepR_nx hR g, OthR_nx g⟩
      simp (disch := first | exact cat_i _ | exact cat_r _ | exact cat_n | omega) only [u15_33, u15_34, u15_37, u15_38, u15_39, u15_40, u15_42, u15_43, u15_44, u15_46, u15_49, u15_52, u15_53, u15_54, u15_57, u15_59, u15_61, u15_62, u15_65, u15_66, u15_67, u15_68, u15_69, u15_70, u15_72, u15_75, u15_76, hT_52, hT_50, e21, q, e18, if_pos, if_neg, ↓reduceIte, false_and, and_false, false_or, or_false, ite_not, decide_true, decide_false, Bool.true_eq_false, Bool.false_eq_true, decide_eq_true_eq, decide_eq_false_iff_not, hp_I, hp_sI, hp_N, ev_k_s, ev_k_n, true_and, and_true, true_or, or_true, not_true_eq_false, not_false_eq_true, if_true, if_false, ite_self, Option.some.injEq, exists_eq_left', nb_0, nb_1, nb_z, zI_t, zI_f, zI_e, cat_i, cat_r, cat_n, iI_add, iI_sub, iI_mul, iI_neg, iI_lt, iI_le, iI_eq, iI_idx, iI_inT, iI_ne0, ite_false, ite_true, iN_0, iN_1, Int.reduceAdd, Int.reduceSub, Int.reduceMul, Int.reduceNeg, Int.reduceDiv, Int.reduceMod, Int.reduceEq, Int.reduceLT, Int.reduceLE, Int.reduceToNat, Nat.reduceAdd, Nat.reduceSub, Nat.reduceMul, Nat.reduceLT, Nat.reduceLeDiff, Nat.reduceEqDiff, Int.cast_ofNat_Int, Std.le_refl, and_self, Int.toNat_natCast, Int.toNat_zero, Nat.le_refl]
    | inr v =>
      simp only [hv] at e18
      obtain ⟨K, k1, k2, k3⟩ := c16 (L := L) (σ := σ) (RepR_nx hR v.2) hl (b, f, some v.1)
      have hpk : 0 ≤ (pkv v.1 : Int) := by omega
      have hpk2 : pkv v.1 < 2097152 := by
        unfold rdV at hv
        cases q1 : rdN T (e + 1) with
        | none => rw [q1] at hv; cases hv
        | some x =>
          rw [q1] at hv
          dsimp only at hv
          split at hv
          · cases q2 : rdN T (x.2 + 1) with
            | none => rw [q2] at hv; cases hv
            | some y =>
              rw [q2] at hv
              dsimp only at hv
              split at hv
              · cases q3 : rdN T (y.2 + 1) with
                | none => rw [q3] at hv; cases hv
                | some z =>
                  rw [q3] at hv
                  cases hv
                  exact pkv_lt ⟨(rdN_in q1).1, (rdN_in q2).1, (rdN_in q3).1⟩
              · cases hv
          · cases hv
      simp only [pkO] at k1
      refine ⟨K, fun Q => ?_, k2, fun i q a => (k3 i q a).trans (OthR_nx v.2 i q a)⟩
      simp (disch := first | exact cat_i _ | exact cat_r _ | exact cat_n | omega) only [u15_33, u15_34, u15_37, u15_38, u15_39, u15_40, u15_42, u15_43, u15_44, u15_46, u15_49, u15_52, u15_53, u15_54, u15_57, u15_59, u15_61, u15_62, u15_65, u15_66, u15_67, u15_68, u15_69, u15_70, u15_72, u15_75, u15_76, hT_52, hT_50, e21, q, e18, k1, if_pos, if_neg, ↓reduceIte, false_and, and_false, false_or, or_false, ite_not, decide_true, decide_false, Bool.true_eq_false, Bool.false_eq_true, decide_eq_true_eq, decide_eq_false_iff_not, hp_I, hp_sI, hp_N, ev_k_s, ev_k_n, true_and, and_true, true_or, or_true, not_true_eq_false, not_false_eq_true, if_true, if_false, ite_self, Option.some.injEq, exists_eq_left', nb_0, nb_1, nb_z, zI_t, zI_f, zI_e, cat_i, cat_r, cat_n, iI_add, iI_sub, iI_mul, iI_neg, iI_lt, iI_le, iI_eq, iI_idx, iI_inT, iI_ne0, ite_false, ite_true, iN_0, iN_1, Int.reduceAdd, Int.reduceSub, Int.reduceMul, Int.reduceNeg, Int.reduceDiv, Int.reduceMod, Int.reduceEq, Int.reduceLT, Int.reduceLE, Int.reduceToNat, Nat.reduceAdd, Nat.reduceSub, Nat.reduceMul, Nat.reduceLT, Nat.reduceLeDiff, Nat.reduceEqDiff, Int.cast_ofNat_Int, Std.le_refl, and_self, Int.toNat_natCast, Int.toNat_zero, Nat.le_refl]
  · rw [if_neg q]
    obtain ⟨K, k1, k2, k3⟩ := c16 (L := L) (σ := σ) (RepR_nx hR e) hl (b, f, none)
    simp only [pkO] at k1
    refine ⟨K, fun Q => ?_, k2, fun i q a => (k3 i q a).trans (OthR_nx e i q a)⟩
    simp (disch := first | exact cat_i _ | exact cat_r _ | exact cat_n | omega) only [u15_33, u15_34, u15_37, u15_38, u15_39, u15_40, u15_42, u15_43, u15_44, u15_46, u15_49, u15_52, u15_53, u15_54, u15_57, u15_59, u15_61, u15_62, u15_65, u15_66, u15_67, u15_68, u15_69, u15_70, u15_72, u15_75, u15_76, hT_52, hT_50, e21, q, k1, if_pos, if_neg, ↓reduceIte, false_and, and_false, false_or, or_false, ite_not, decide_true, decide_false, Bool.true_eq_false, Bool.false_eq_true, decide_eq_true_eq, decide_eq_false_iff_not, hp_I, hp_sI, hp_N, ev_k_s, ev_k_n, true_and, and_true, true_or, or_true, not_true_eq_false, not_false_eq_true, if_true, if_false, ite_self, Option.some.injEq, exists_eq_left', nb_0, nb_1, nb_z, zI_t, zI_f, zI_e, cat_i, cat_r, cat_n, iI_add, iI_sub, iI_mul, iI_neg, iI_lt, iI_le, iI_eq, iI_idx, iI_inT, iI_ne0, ite_false, ite_true, iN_0, iN_1, Int.reduceAdd, Int.reduceSub, Int.reduceMul, Int.reduceNeg, Int.reduceDiv, Int.reduceMod, Int.reduceEq, Int.reduceLT, Int.reduceLE, Int.reduceToNat, Nat.reduceAdd, Nat.reduceSub, Nat.reduceMul, Nat.reduceLT, Nat.reduceLeDiff, Nat.reduceEqDiff, Int.cast_ofNat_Int, Std.le_refl, and_self, Int.toNat_natCast, Int.toNat_zero, Nat.le_refl]
theorem rdF_in {x : Nat × Nat} (h : rdF T k = some x) : isFig x.1 ∧ k < x.2 ∧ x.2 ≤ k + 2 := by
  unfold rdF at h
  unfold isFig
  split at h
  · cases h; dsimp only; omega
  · split at h
    · cases h; dsimp only; omega
    · split at h
      · split at h
        · cases h; dsimp only; omega
        · cases h; dsimp only; omega
      · cases h
/-- readChord -/
theorem c15 (hT : RepT I T) (hR : RepR I l k) (hl : l.length < 1000) (hk : k < 500) : RdO L σ I l (fun Q => ev_c 15 [.ref 52, .ref 50] (hp L σ I) Q) (rdC T k) := by
  have e19 := fun Q => c19 (L := L) (σ := σ) (Q := Q) (k := k) hT (by omega)
  rw [nx_self hR.1] at e19
  unfold rdC
  cases hn : rdN T k with
  | none =>
    simp only [hn] at e19
    refine ⟨I, fun Q => ?_, hR, fun _ _ _ => rfl⟩
    simp (disch := first | exact cat_i _ | exact cat_r _ | exact cat_n | omega) only [e15, u15_0, u15_1, u15_2, u15_5, u15_6, u15_7, u15_8, u15_11, u15_12, u15_13, u15_14, u15_15, u15_17, u15_20, u15_23, u15_24, u15_25, u15_28, u15_31, u15_32, u15_33, u15_34, u15_37, u15_38, u15_39, u15_40, u15_42, u15_43, u15_44, u15_46, u15_49, u15_52, u15_53, u15_54, u15_57, u15_59, u15_61, u15_62, u15_65, u15_66, u15_67, u15_68, u15_69, u15_70, u15_72, u15_75, u15_76, hT_52, hT_50, e19, if_pos, if_neg, ↓reduceIte, false_and, and_false, false_or, or_false, ite_not, decide_true, decide_false, Bool.true_eq_false, Bool.false_eq_true, decide_eq_true_eq, decide_eq_false_iff_not, hp_I, hp_sI, hp_N, ev_k_s, ev_k_n, true_and, and_true, true_or, or_true, not_true_eq_false, not_false_eq_true, if_true, if_false, ite_self, Option.some.injEq, exists_eq_left', nb_0, nb_1, nb_z, zI_t, zI_f, zI_e, cat_i, cat_r, cat_n, iI_add, iI_sub, iI_mul, iI_neg, iI_lt, iI_le, iI_eq, iI_idx, iI_inT, iI_ne0, ite_false, ite_true, iN_0, iN_1, Int.reduceAdd, Int.reduceSub, Int.reduceMul, Int.reduceNeg, Int.reduceDiv, Int.reduceMod, Int.reduceEq, Int.reduceLT, Int.reduceLE, Int.reduceToNat, Nat.reduceAdd, Nat.reduceSub, Nat.reduceMul, Nat.reduceLT, Nat.reduceLeDiff, Nat.reduceEqDiff, Int.cast_ofNat_Int, Std.le_refl, and_self, Int.toNat_natCast, Int.toNat_zero, Nat.le_refl]
  | some x =>
    simp only [hn] at e19
    obtain ⟨x1, x2, x3⟩ := rdN_in hn
    have e21 := fun Q => c21 (L := L) (σ := σ) (Q := Q) (k := x.2) (c := 47) hT (by omega) (by omega)
    simp only [Int.cast_ofNat_Int] at e21
    dsimp only
    by_cases q : sgn T x.2 = 47
    · rw [if_pos q]
      have e17 := fun Q => c17 (L := L) (σ := σ) (Q := Q) (k := x.2 + 1) hT (by omega)
      cases hf : rdF T (x.2 + 1) with
      | none =>
        simp only [hf] at e17
        refine ⟨nx I (x.2 + 1), fun Q => ?_, RepR_nx hR _, OthR_nx _⟩
        simp (disch := first | exact cat_i _ | exact cat_r _ | exact cat_n | omega) only [e15, u15_0, u15_1, u15_2, u15_5, u15_6, u15_7, u15_8, u15_11, u15_12, u15_13, u15_14, u15_15, u15_17, u15_20, u15_23, u15_24, u15_25, u15_28, u15_31, u15_32, u15_33, u15_34, u15_37, u15_38, u15_39, u15_40, u15_42, u15_43, u15_44, u15_46, u15_49, u15_52, u15_53, u15_54, u15_57, u15_59, u15_61, u15_62, u15_65, u15_66, u15_67, u15_68, u15_69, u15_70, u15_72, u15_75, u15_76, hT_52, hT_50, e19, e21, q, e17, if_pos, if_neg, ↓reduceIte, false_and, and_false, false_or, or_false, ite_not, decide_true, decide_false, Bool.true_eq_false, Bool.false_eq_true, decide_eq_true_eq, decide_eq_false_iff_not, hp_I, hp_sI, hp_N, ev_k_s, ev_k_n, true_and, and_true, true_or, or_true, not_true_eq_false, not_false_eq_true, if_true, if_false, ite_self, Option.some.injEq, exists_eq_left', nb_0, nb_1, nb_z, zI_t, zI_f, zI_e, cat_i, cat_r, cat_n, iI_add, iI_sub, iI_mul, iI_neg, iI_lt, iI_le, iI_eq, iI_idx, iI_inT, iI_ne0, ite_false, ite_true, iN_0, iN_1, Int.reduceAdd, Int.reduceSub, Int.reduceMul, Int.reduceNeg, Int.reduceDiv, Int.reduceMod, Int.reduceEq, Int.reduceLT, Int.reduceLE, Int.reduceToNat, Nat.reduceAdd, Nat.reduceSub, Nat.reduceMul, Nat.reduceLT, Nat.reduceLeDiff, Nat.reduceEqDiff, Int.cast_ofNat_Int, Std.le_refl, and_self, Int.toNat_natCast, Int.toNat_zero, Nat.le_refl]
      | some y =>
        simp only [hf] at e17
        obtain ⟨y1, y2, y3⟩ := rdF_in hf
        have hy : 0 < y.1 ∧ y.1 < 100 := by unfold isFig at y1; omega
        have ht := c15t (L := L) (σ := σ) (e := y.2) (f := y.1) (b := x.1) hT hR hl (by omega) hy.1 hy.2 x1
        have eq : ∀ Q : Option Value → fb_H → Prop, ev_c 15 [.ref 52, .ref 50] (hp L σ I) Q = ev_w 15 33 [.ref 52, .ref 50, .int (iI (x.1 : Int)), .int (iI (y.1 : Int)), .null] [] (hp L σ (nx I y.2)) Q := fun Q => by
          simp (disch := first | exact cat_i _ | exact cat_r _ | exact cat_n | omega) only [u15_0, u15_1, u15_2, u15_5, u15_6, u15_7, u15_8, u15_11, u15_12, u15_13, u15_14, u15_15, u15_17, u15_20, u15_23, u15_24, u15_25, u15_28, u15_31, u15_32, e15, hT_52, hT_50, e19, e21, q, e17, if_pos, if_neg, ↓reduceIte, false_and, and_false, false_or, or_false, ite_not, decide_true, decide_false, Bool.true_eq_false, Bool.false_eq_true, decide_eq_true_eq, decide_eq_false_iff_not, hp_I, hp_sI, hp_N, ev_k_s, ev_k_n, true_and, and_true, true_or, or_true, not_true_eq_false, not_false_eq_true, if_true, if_false, ite_self, Option.some.injEq, exists_eq_left', nb_0, nb_1, nb_z, zI_t, zI_f, zI_e, cat_i, cat_r, cat_n, iI_add, iI_sub, iI_mul, iI_neg, iI_lt, iI_le, iI_eq, iI_idx, iI_inT, iI_ne0, ite_false, ite_true, iN_0, iN_1, Int.reduceAdd, Int.reduceSub, Int.reduceMul, Int.reduceNeg, Int.reduceDiv, Int.reduceMod, Int.reduceEq, Int.reduceLT, Int.reduceLE, Int.reduceToNat, Nat.reduceAdd, Nat.reduceSub, Nat.reduceMul, Nat.reduceLT, Nat.reduceLeDiff, Nat.reduceEqDiff, Int.cast_ofNat_Int, Std.le_refl, and_self, Int.toNat_natCast, Int.toNat_zero, Nat.le_refl]
        rw [funext eq]
        exact ht
    · rw [if_neg q]
      have ht := c15t (L := L) (σ := σ) (e := x.2) (f := 5) (b := x.1) hT hR hl (by omega) (by omega) (by omega) x1
      have eq : ∀ Q : Option Value → fb_H → Prop, ev_c 15 [.ref 52, .ref 50] (hp L σ I) Q = ev_w 15 33 [.ref 52, .ref 50, .int (iI (x.1 : Int)), .int (iI 5), .null] [] (hp L σ (nx I x.2)) Q := fun Q => by
        simp (disch := first | exact cat_i _ | exact cat_r _ | exact cat_n | omega) only [u15_0, u15_1, u15_2, u15_5, u15_6, u15_7, u15_8, u15_11, u15_12, u15_13, u15_14, u15_15, u15_17, u15_20, u15_23, u15_24, u15_25, u15_28, u15_31, u15_32, e15, hT_52, hT_50, e19, e21, q, if_pos, if_neg, ↓reduceIte, false_and, and_false, false_or, or_false, ite_not, decide_true, decide_false, Bool.true_eq_false, Bool.false_eq_true, decide_eq_true_eq, decide_eq_false_iff_not, hp_I, hp_sI, hp_N, ev_k_s, ev_k_n, true_and, and_true, true_or, or_true, not_true_eq_false, not_false_eq_true, if_true, if_false, ite_self, Option.some.injEq, exists_eq_left', nb_0, nb_1, nb_z, zI_t, zI_f, zI_e, cat_i, cat_r, cat_n, iI_add, iI_sub, iI_mul, iI_neg, iI_lt, iI_le, iI_eq, iI_idx, iI_inT, iI_ne0, ite_false, ite_true, iN_0, iN_1, Int.reduceAdd, Int.reduceSub, Int.reduceMul, Int.reduceNeg, Int.reduceDiv, Int.reduceMod, Int.reduceEq, Int.reduceLT, Int.reduceLE, Int.reduceToNat, Nat.reduceAdd, Nat.reduceSub, Nat.reduceMul, Nat.reduceLT, Nat.reduceLeDiff, Nat.reduceEqDiff, Int.cast_ofNat_Int, Std.le_refl, and_self, Int.toNat_natCast, Int.toNat_zero, Nat.le_refl]
      rw [funext eq]
      exact ht
end RE
