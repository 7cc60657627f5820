def rdA (T : List Nat) : Nat → List Ch → Nat → Nat ⊕ List Ch
  | 0, l, _ => .inr l
  | f + 1, l, k => if k < T.length then (if sgn T k = 59 then (match rdC T (k + 1) with
    | .inl g => .inl g
    | .inr x => rdA T f (l ++ [x.1]) x.2) else .inl k) else .inr l
def rdT (T : List Nat) : Nat ⊕ List Ch := match rdC T 0 with
  | .inl g => .inl g
  | .inr x => rdA T 80 [x.1] x.2
def rdI : Nat ⊕ List Ch → Int
  | .inl g => (g : Int)
  | .inr _ => -6
theorem rdE_in {T : List Nat} {b f e : Nat} {x : Ch × Nat} (h : rdE T b f e = .inr x) : x.2 ≤ e + 20 := by
  unfold rdE at h
  split at h
  · cases hv : rdV T (e + 1) with
    | inl g => rw [hv] at h; cases h
    | inr v =>
      rw [hv] at h
      cases h
      dsimp only
      unfold rdV at hv
      cases q1 : rdN T (e + 1) with
      | none => rw [q1] at hv; cases hv
      | some x =>
        rw [q1] at hv
        dsimp only at hv
        split at hv
        · cases q2 : rdN T (x.2 + 1) with
          | none => rw [q2] at hv; cases hv
          | some y =>
            rw [q2] at hv
            dsimp only at hv
            split at hv
            · cases q3 : rdN T (y.2 + 1) with
              | none => rw [q3] at hv; cases hv
              | some z =>
                rw [q3] at hv
                cases hv
                have := rdN_in q1
                have := rdN_in q2
                have := rdN_in q3
                omega
            · cases hv
        · cases hv
  · cases h; dsimp only; omega
theorem rdC_in {T : List Nat} {k : Nat} {x : Ch × Nat} (h : rdC T k = .inr x) : x.2 ≤ k + 30 := by
  unfold rdC at h
  cases q1 : rdN T k with
  | none => rw [q1] at h; cases h
  | some b =>
    rw [q1] at h
    have := rdN_in q1
    dsimp only at h
    split at h
    · cases q2 : rdF T (b.2 + 1) with
      | none => rw [q2] at h; cases h
      | some f =>
        rw [q2] at h
        have := rdF_in q2
        have := rdE_in h
        omega
    · have := rdE_in h
      omega
def RdP (L : Nat) (σ : Nat → Nat) (I : Nat → Nat → Int32) (W : (Option Value → fb_H → Prop) → Prop) (r : Nat ⊕ List Ch) : Prop := ∃ K, (∀ Q : Option Value → fb_H → Prop, W Q = Q (some (.int (iI (rdI r)))) (hp L σ K)) ∧ OthR I K ∧ ∀ l, r = .inr l → ∃ k, RepR K l k
section RA
variable {L : Nat} {σ : Nat → Nat} {I J : Nat → Nat → Int32} {Q : Option Value → fb_H → Prop} {T : List Nat} {k e b f : Nat} {l : List Ch}
theorem c14i (hT : RepT I T) : ∀ (f m : Nat) (l : List Ch) (k : Nat) (J : Nat → Nat → Int32), m + f = 80 → RepR J l k → OthR I J → l.length + f < 900 → k < 400 → RdP L σ I (fun Q => ev_w 14 18 [.ref 52, .ref 50, .int (iI 1), .int (iI (m : Int))] [] (hp L σ J) Q) (rdA T f l k)
  | 0, m, l, k, J, hm, hR, hO, hl, hk => by
    have : m = 80 := by omega
    subst this
    refine ⟨J, fun Q => ?_, hO, fun l' e => by cases e; exact ⟨k, hR⟩⟩
    show ev_w 14 18 [.ref 52, .ref 50, .int (iI 1), .int (iI 80)] [] (hp L σ J) Q = Q (some (.int (iI (-6)))) (hp L σ J)
    rw [u14_18]
    simp (disch := first | exact cat_i _ | exact cat_r _ | exact cat_n | omega) only [u14_19, u14_21, u14_24, u14_25, u14_28, u14_29, u14_32, u14_33, u14_36, u14_39, u14_40, u14_41, u14_43, u14_46, u14_49, u14_50, u14_51, u14_54, u14_57, u14_58, u14_61, u14_62, u14_63, u14_66, u14_69, u14_70, u14_73, u14_75, u14_78, u14_79, u14_82, hT_52, hT_50, if_pos, if_neg, ↓reduceIte, false_and, and_false, false_or, or_false, ite_not, decide_true, decide_false, Bool.true_eq_false, Bool.false_eq_true, decide_eq_true_eq, decide_eq_false_iff_not, hp_I, hp_sI, hp_N, ev_k_s, ev_k_n, true_and, and_true, true_or, or_true, not_true_eq_false, not_false_eq_true, if_true, if_false, ite_self, Option.some.injEq, exists_eq_left', nb_0, nb_1, nb_z, zI_t, zI_f, zI_e, cat_i, cat_r, cat_n, iI_add, iI_sub, iI_mul, iI_neg, iI_lt, iI_le, iI_eq, iI_idx, iI_inT, iI_ne0, ite_false, ite_true, iN_0, iN_1, Int.reduceAdd, Int.reduceSub, Int.reduceMul, Int.reduceNeg, Int.reduceDiv, Int.reduceMod, Int.reduceEq, Int.reduceLT, Int.reduceLE, Int.reduceToNat, Nat.reduceAdd, Nat.reduceSub, Nat.reduceMul, Nat.reduceLT, Nat.reduceLeDiff, Nat.reduceEqDiff, Int.cast_ofNat_Int, Std.le_refl, and_self, Int.toNat_natCast, Int.toNat_zero, Nat.le_refl]
  | f + 1, m, l, k, J, hm, hR, hO, hl, hk => by
    have hTJ : RepT J T := RepT_o hT fun i q a b => hO i q (by omega)
    have h80 := hT.2.1
    have e6 := fun Q => c6 (L := L) (σ := σ) (Q := Q) hTJ
    unfold rdA
    by_cases q : k < T.length
    · rw [if_pos q]
      have e21 := fun Q => c21 (L := L) (σ := σ) (Q := Q) (I := J) (k := k) (c := 59) hTJ (by omega) (by omega)
      rw [nx_self hR.1] at e21
      simp only [Int.cast_ofNat_Int] at e21
      by_cases g : sgn T k = 59
      · rw [if_pos g]
        have hR1 := RepR_nx hR (k + 1)
        have hT1 : RepT (nx J (k + 1)) T := RepT_nx hTJ
        have h15 := c15 (L := L) (σ := σ) hT1 hR1 (by omega) (by omega)
        cases hc : rdC T (k + 1) with
        | inl w =>
          rw [hc] at h15
          obtain ⟨K, k1, k2, k3⟩ := h15
          have hw := k2.1
          refine ⟨K, fun Q => ?_, fun i q a => (k3 i q a).trans ((OthR_nx _ i q a).trans (hO i q a)), fun l' e => by cases e⟩
          show ev_w 14 18 [.ref 52, .ref 50, .int (iI 1), .int (iI (m : Int))] [] (hp L σ J) Q = Q (some (.int (iI (w : Int)))) (hp L σ K)
          dsimp only at k1
          rw [u14_18]
          simp (disch := first | exact cat_i _ | exact cat_r _ | exact cat_n | omega) only [u14_19, u14_21, u14_24, u14_25, u14_28, u14_29, u14_32, u14_33, u14_36, u14_39, u14_40, u14_41, u14_43, u14_46, u14_49, u14_50, u14_51, u14_54, u14_57, u14_58, u14_61, u14_62, u14_63, u14_66, hT_52, hT_50, hR.1, e6, e21, g, k1, if_pos, if_neg, ↓reduceIte, false_and, and_false, false_or, or_false, ite_not, decide_true, decide_false, Bool.true_eq_false, Bool.false_eq_true, decide_eq_true_eq, decide_eq_false_iff_not, hp_I, hp_sI, hp_N, ev_k_s, ev_k_n, true_and, and_true, true_or, or_true, not_true_eq_false, not_false_eq_true, if_true, if_false, ite_self, Option.some.injEq, exists_eq_left', nb_0, nb_1, nb_z, zI_t, zI_f, zI_e, cat_i, cat_r, cat_n, iI_add, iI_sub, iI_mul, iI_neg, iI_lt, iI_le, iI_eq, iI_idx, iI_inT, iI_ne0, ite_false, ite_true, iN_0, iN_1, Int.reduceAdd, Int.reduceSub, Int.reduceMul, Int.reduceNeg, Int.reduceDiv, Int.reduceMod, Int.reduceEq, Int.reduceLT, Int.reduceLE, Int.reduceToNat, Nat.reduceAdd, Nat.reduceSub, Nat.reduceMul, Nat.reduceLT, Nat.reduceLeDiff, Nat.reduceEqDiff, Int.cast_ofNat_Int, Std.le_refl, and_self, Int.toNat_natCast, Int.toNat_zero, Nat.le_refl]
          rw [u14_18]
          simp (disch := first | exact cat_i _ | exact cat_r _ | exact cat_n | omega) only [u14_19, u14_21, u14_24, u14_25, u14_28, u14_29, u14_32, u14_33, u14_36, u14_39, u14_40, u14_41, u14_43, u14_46, u14_49, u14_50, u14_51, u14_54, u14_57, u14_58, u14_61, u14_62, u14_63, u14_66, u14_69, u14_70, u14_73, u14_75, u14_78, u14_79, u14_82, hT_52, hT_50, hw, ite_self, if_pos, if_neg, ↓reduceIte, false_and, and_false, false_or, or_false, ite_not, decide_true, decide_false, Bool.true_eq_false, Bool.false_eq_true, decide_eq_true_eq, decide_eq_false_iff_not, hp_I, hp_sI, hp_N, ev_k_s, ev_k_n, true_and, and_true, true_or, or_true, not_true_eq_false, not_false_eq_true, if_true, if_false, ite_self, Option.some.injEq, exists_eq_left', nb_0, nb_1, nb_z, zI_t, zI_f, zI_e, cat_i, cat_r, cat_n, iI_add, iI_sub, iI_mul, iI_neg, iI_lt, iI_le, iI_eq, iI_idx, iI_inT, iI_ne0, ite_false, ite_true, iN_0, iN_1, Int.reduceAdd, Int.reduceSub, Int.reduceMul, Int.reduceNeg, Int.reduceDiv, Int.reduceMod, Int.reduceEq, Int.reduceLT, Int.reduceLE, Int.reduceToNat, Nat.reduceAdd, Nat.reduceSub, Nat.reduceMul, Nat.reduceLT, Nat.reduceLeDiff, Nat.reduceEqDiff, Int.cast_ofNat_Int, Std.le_refl, and_self, Int.toNat_natCast, Int.toNat_zero, Nat.le_refl]
        | inr x =>
          rw [hc] at h15
          obtain ⟨K, k1, k2, k3⟩ := h15
          dsimp only
          have hx := rdC_in hc
          have ih := c14i hT f (m + 1) (l ++ [x.1]) x.2 K (by omega) k2 (fun i q a => (k3 i q a).trans ((OthR_nx _ i q a).trans (hO i q a))) (by rw [List.length_append]; show l.length + 1 + f < 900; omega) (by omega)
          obtain ⟨K2, p1, p2, p3⟩ := ih
          refine ⟨K2, fun Q => ?_, p2, p3⟩
          refine Eq.trans ?_ (p1 Q)
          show ev_w 14 18 [.ref 52, .ref 50, .int (iI 1), .int (iI (m : Int))] [] (hp L σ J) Q = ev_w 14 18 [.ref 52, .ref 50, .int (iI 1), .int (iI ((m + 1 : Nat) : Int))] [] (hp L σ K) Q
          dsimp only at k1
          rw [u14_18]
          simp (disch := first | exact cat_i _ | exact cat_r _ | exact cat_n | omega) only [u14_19, u14_21, u14_24, u14_25, u14_28, u14_29, u14_32, u14_33, u14_36, u14_39, u14_40, u14_41, u14_43, u14_46, u14_49, u14_50, u14_51, u14_54, u14_57, u14_58, u14_61, u14_62, u14_63, u14_66, hT_52, hT_50, hR.1, e6, e21, g, k1, if_pos, if_neg, ↓reduceIte, false_and, and_false, false_or, or_false, ite_not, decide_true, decide_false, Bool.true_eq_false, Bool.false_eq_true, decide_eq_true_eq, decide_eq_false_iff_not, hp_I, hp_sI, hp_N, ev_k_s, ev_k_n, true_and, and_true, true_or, or_true, not_true_eq_false, not_false_eq_true, if_true, if_false, ite_self, Option.some.injEq, exists_eq_left', nb_0, nb_1, nb_z, zI_t, zI_f, zI_e, cat_i, cat_r, cat_n, iI_add, iI_sub, iI_mul, iI_neg, iI_lt, iI_le, iI_eq, iI_idx, iI_inT, iI_ne0, ite_false, ite_true, iN_0, iN_1, Int.reduceAdd, Int.reduceSub, Int.reduceMul, Int.reduceNeg, Int.reduceDiv, Int.reduceMod, Int.reduceEq, Int.reduceLT, Int.reduceLE, Int.reduceToNat, Nat.reduceAdd, Nat.reduceSub, Nat.reduceMul, Nat.reduceLT, Nat.reduceLeDiff, Nat.reduceEqDiff, Int.cast_ofNat_Int, Std.le_refl, and_self, Int.toNat_natCast, Int.toNat_zero, Nat.le_refl]
          rfl
      · rw [if_neg g]
        have hk' := hR.1
        refine ⟨J, fun Q => ?_, hO, fun l' e => by cases e⟩
        show ev_w 14 18 [.ref 52, .ref 50, .int (iI 1), .int (iI (m : Int))] [] (hp L σ J) Q = Q (some (.int (iI (k : Int)))) (hp L σ J)
        rw [u14_18]
        simp (disch := first | exact cat_i _ | exact cat_r _ | exact cat_n | omega) only [u14_19, u14_21, u14_24, u14_25, u14_28, u14_29, u14_32, u14_33, u14_36, u14_39, u14_40, u14_41, u14_43, u14_46, u14_49, u14_50, u14_51, u14_54, u14_57, u14_58, u14_61, u14_62, u14_63, u14_66, hT_52, hT_50, hR.1, e6, e21, g, if_pos, if_neg, ↓reduceIte, false_and, and_false, false_or, or_false, ite_not, decide_true, decide_false, Bool.true_eq_false, Bool.false_eq_true, decide_eq_true_eq, decide_eq_false_iff_not, hp_I, hp_sI, hp_N, ev_k_s, ev_k_n, true_and, and_true, true_or, or_true, not_true_eq_false, not_false_eq_true, if_true, if_false, ite_self, Option.some.injEq, exists_eq_left', nb_0, nb_1, nb_z, zI_t, zI_f, zI_e, cat_i, cat_r, cat_n, iI_add, iI_sub, iI_mul, iI_neg, iI_lt, iI_le, iI_eq, iI_idx, iI_inT, iI_ne0, ite_false, ite_true, iN_0, iN_1, Int.reduceAdd, Int.reduceSub, Int.reduceMul, Int.reduceNeg, Int.reduceDiv, Int.reduceMod, Int.reduceEq, Int.reduceLT, Int.reduceLE, Int.reduceToNat, Nat.reduceAdd, Nat.reduceSub, Nat.reduceMul, Nat.reduceLT, Nat.reduceLeDiff, Nat.reduceEqDiff, Int.cast_ofNat_Int, Std.le_refl, and_self, Int.toNat_natCast, Int.toNat_zero, Nat.le_refl]
        rw [u14_18]
        simp (disch := first | exact cat_i _ | exact cat_r _ | exact cat_n | omega) only [u14_19, u14_21, u14_24, u14_25, u14_28, u14_29, u14_32, u14_33, u14_36, u14_39, u14_40, u14_41, u14_43, u14_46, u14_49, u14_50, u14_51, u14_54, u14_57, u14_58, u14_61, u14_62, u14_63, u14_66, u14_69, u14_70, u14_73, u14_75, u14_78, u14_79, u14_82, hT_52, hT_50, hR.1, ite_self, if_pos, if_neg, ↓reduceIte, false_and, and_false, false_or, or_false, ite_not, decide_true, decide_false, Bool.true_eq_false, Bool.false_eq_true, decide_eq_true_eq, decide_eq_false_iff_not, hp_I, hp_sI, hp_N, ev_k_s, ev_k_n, true_and, and_true, true_or, or_true, not_true_eq_false, not_false_eq_true, if_true, if_false, ite_self, Option.some.injEq, exists_eq_left', nb_0, nb_1, nb_z, zI_t, zI_f, zI_e, cat_i, cat_r, cat_n, iI_add, iI_sub, iI_mul, iI_neg, iI_lt, iI_le, iI_eq, iI_idx, iI_inT, iI_ne0, ite_false, ite_true, iN_0, iN_1, Int.reduceAdd, Int.reduceSub, Int.reduceMul, Int.reduceNeg, Int.reduceDiv, Int.reduceMod, Int.reduceEq, Int.reduceLT, Int.reduceLE, Int.reduceToNat, Nat.reduceAdd, Nat.reduceSub, Nat.reduceMul, Nat.reduceLT, Nat.reduceLeDiff, Nat.reduceEqDiff, Int.cast_ofNat_Int, Std.le_refl, and_self, Int.toNat_natCast, Int.toNat_zero, Nat.le_refl]
    · rw [if_neg q]
      refine ⟨J, fun Q => ?_, hO, fun l' e => by cases e; exact ⟨k, hR⟩⟩
      show ev_w 14 18 [.ref 52, .ref 50, .int (iI 1), .int (iI (m : Int))] [] (hp L σ J) Q = Q (some (.int (iI (-6)))) (hp L σ J)
      rw [u14_18]
      simp (disch := first | exact cat_i _ | exact cat_r _ | exact cat_n | omega) only [u14_19, u14_21, u14_24, u14_25, u14_28, u14_29, u14_32, u14_33, u14_36, u14_39, u14_40, u14_41, u14_43, u14_46, u14_49, u14_50, u14_51, u14_54, u14_57, u14_58, u14_61, u14_62, u14_63, u14_66, u14_69, u14_70, u14_73, u14_75, u14_78, u14_79, u14_82, hT_52, hT_50, hR.1, e6, if_pos, if_neg, ↓reduceIte, false_and, and_false, false_or, or_false, ite_not, decide_true, decide_false, Bool.true_eq_false, Bool.false_eq_true, decide_eq_true_eq, decide_eq_false_iff_not, hp_I, hp_sI, hp_N, ev_k_s, ev_k_n, true_and, and_true, true_or, or_true, not_true_eq_false, not_false_eq_true, if_true, if_false, ite_self, Option.some.injEq, exists_eq_left', nb_0, nb_1, nb_z, zI_t, zI_f, zI_e, cat_i, cat_r, cat_n, iI_add, iI_sub, iI_mul, iI_neg, iI_lt, iI_le, iI_eq, iI_idx, iI_inT, iI_ne0, ite_false, ite_true, iN_0, iN_1, Int.reduceAdd, Int.reduceSub, Int.reduceMul, Int.reduceNeg, Int.reduceDiv, Int.reduceMod, Int.reduceEq, Int.reduceLT, Int.reduceLE, Int.reduceToNat, Nat.reduceAdd, Nat.reduceSub, Nat.reduceMul, Nat.reduceLT, Nat.reduceLeDiff, Nat.reduceEqDiff, Int.cast_ofNat_Int, Std.le_refl, and_self, Int.toNat_natCast, Int.toNat_zero, Nat.le_refl]
/-- readAll -/
theorem c14 (hT : RepT I T) : RdP L σ I (fun Q => ev_c 14 [.ref 52, .ref 50] (hp L σ I) Q) (rdT T) := by
  have hR0 : RepR (fb_u2 (fb_u2 I 52 4 (iI 0)) 52 3 (iI 0)) [] 0 := ⟨(u2_ne (by omega)).trans u2_eq, u2_eq, fun j h => absurd h (Nat.not_lt_zero j)⟩
  have hO0 : OthR I (fb_u2 (fb_u2 I 52 4 (iI 0)) 52 3 (iI 0)) := fun i q a => (u2_ne (by omega)).trans (u2_ne (by omega))
  have hT0 : RepT (fb_u2 (fb_u2 I 52 4 (iI 0)) 52 3 (iI 0)) T := RepT_o hT fun i q a b => hO0 i q (by omega)
  have h15 := c15 (L := L) (σ := σ) hT0 hR0 (by decide) (by omega)
  unfold rdT
  cases hc : rdC T 0 with
  | inl w =>
    rw [hc] at h15
    obtain ⟨K, k1, k2, k3⟩ := h15
    have hw := k2.1
    refine ⟨K, fun Q => ?_, fun i q a => (k3 i q a).trans (hO0 i q a), fun l' e => by cases e⟩
    show ev_c 14 [.ref 52, .ref 50] (hp L σ I) Q = Q (some (.int (iI (w : Int)))) (hp L σ K)
    dsimp only at k1
    simp (disch := first | exact cat_i _ | exact cat_r _ | exact cat_n | omega) only [u14_0, u14_1, u14_2, u14_5, u14_6, u14_7, u14_10, u14_11, u14_12, u14_15, u14_16, u14_17, e14, hT_52, hT_50, k1, if_pos, if_neg, ↓reduceIte, false_and, and_false, false_or, or_false, ite_not, decide_true, decide_false, Bool.true_eq_false, Bool.false_eq_true, decide_eq_true_eq, decide_eq_false_iff_not, hp_I, hp_sI, hp_N, ev_k_s, ev_k_n, true_and, and_true, true_or, or_true, not_true_eq_false, not_false_eq_true, if_true, if_false, ite_self, Option.some.injEq, exists_eq_left', nb_0, nb_1, nb_z, zI_t, zI_f, zI_e, cat_i, cat_r, cat_n, iI_add, iI_sub, iI_mul, iI_neg, iI_lt, iI_le, iI_eq, iI_idx, iI_inT, iI_ne0, ite_false, ite_true, iN_0, iN_1, Int.reduceAdd, Int.reduceSub, Int.reduceMul, Int.reduceNeg, Int.reduceDiv, Int.reduceMod, Int.reduceEq, Int.reduceLT, Int.reduceLE, Int.reduceToNat, Nat.reduceAdd, Nat.reduceSub, Nat.reduceMul, Nat.reduceLT, Nat.reduceLeDiff, Nat.reduceEqDiff, Int.cast_ofNat_Int, Std.le_refl, and_self, Int.toNat_natCast, Int.toNat_zero, Nat.le_refl]
    rw [u14_18]
    simp (disch := first | exact cat_i _ | exact cat_r _ | exact cat_n | omega) only [u14_19, u14_21, u14_24, u14_25, u14_28, u14_29, u14_32, u14_33, u14_36, u14_39, u14_40, u14_41, u14_43, u14_46, u14_49, u14_50, u14_51, u14_54, u14_57, u14_58, u14_61, u14_62, u14_63, u14_66, u14_69, u14_70, u14_73, u14_75, u14_78, u14_79, u14_82, hT_52, hT_50, hw, ite_self, if_pos, if_neg, ↓reduceIte, false_and, and_false, false_or, or_false, ite_not, decide_true, decide_false, Bool.true_eq_false, Bool.false_eq_true, decide_eq_true_eq, decide_eq_false_iff_not, hp_I, hp_sI, hp_N, ev_k_s, ev_k_n, true_and, and_true, true_or, or_true, not_true_eq_false, not_false_eq_true, if_true, if_false, ite_self, Option.some.injEq, exists_eq_left', nb_0, nb_1, nb_z, zI_t, zI_f, zI_e, cat_i, cat_r, cat_n, iI_add, iI_sub, iI_mul, iI_neg, iI_lt, iI_le, iI_eq, iI_idx, iI_inT, iI_ne0, ite_false, ite_true, iN_0, iN_1, Int.reduceAdd, Int.reduceSub, Int.reduceMul, Int.reduceNeg, Int.reduceDiv, Int.reduceMod, Int.reduceEq, Int.reduceLT, Int.reduceLE, Int.reduceToNat, Nat.reduceAdd, Nat.reduceSub, Nat.reduceMul, Nat.reduceLT, Nat.reduceLeDiff, Nat.reduceEqDiff, Int.cast_ofNat_Int, Std.le_refl, and_self, Int.toNat_natCast, Int.toNat_zero, Nat.le_refl]
  | inr x =>
    rw [hc] at h15
    obtain ⟨K, k1, k2, k3⟩ := h15
    have hx := rdC_in hc
    obtain ⟨K2, p1, p2, p3⟩ := c14i (L := L) (σ := σ) hT 80 0 [x.1] x.2 K (by omega) k2 (fun i q a => (k3 i q a).trans (hO0 i q a)) (by show 1 + 80 < 900; omega) (by omega)
    refine ⟨K2, fun Q => Eq.trans ?_ (p1 Q), p2, p3⟩
    show ev_c 14 [.ref 52, .ref 50] (hp L σ I) Q = ev_w 14 18 [.ref 52, .ref 50, .int (iI 1), .int (iI 0)] [] (hp L σ K) Q
    dsimp only at k1
    simp (disch := first | exact cat_i _ | exact cat_r _ | exact cat_n | omega) only [u14_0, u14_1, u14_2, u14_5, u14_6, u14_7, u14_10, u14_11, u14_12, u14_15, u14_16, u14_17, e14, hT_52, hT_50, k1, if_pos, if_neg, ↓reduceIte, false_and, and_false, false_or, or_false, ite_not, decide_true, decide_false, Bool.true_eq_false, Bool.false_eq_true, decide_eq_true_eq, decide_eq_false_iff_not, hp_I, hp_sI, hp_N, ev_k_s, ev_k_n, true_and, and_true, true_or, or_true, not_true_eq_false, not_false_eq_true, if_true, if_false, ite_self, Option.some.injEq, exists_eq_left', nb_0, nb_1, nb_z, zI_t, zI_f, zI_e, cat_i, cat_r, cat_n, iI_add, iI_sub, iI_mul, iI_neg, iI_lt, iI_le, iI_eq, iI_idx, iI_inT, iI_ne0, ite_false, ite_true, iN_0, iN_1, Int.reduceAdd, Int.reduceSub, Int.reduceMul, Int.reduceNeg, Int.reduceDiv, Int.reduceMod, Int.reduceEq, Int.reduceLT, Int.reduceLE, Int.reduceToNat, Nat.reduceAdd, Nat.reduceSub, Nat.reduceMul, Nat.reduceLT, Nat.reduceLeDiff, Nat.reduceEqDiff, Int.cast_ofNat_Int, Std.le_refl, and_self, Int.toNat_natCast, Int.toNat_zero, Nat.le_refl]
/-- fault -/
theorem x97 {A : AS} (hX : RepX σ I A) (hs : StI I) : XR L σ I 97 [.ref 0] (rdI (rdT A.2.2.2), A) := by
  obtain ⟨h1, h2, h3, h4, h5, h6⟩ := id hX
  obtain ⟨K, k1, k2, k3⟩ := c14 (L := L) (σ := σ) h6
  dsimp only at k1
  refine ⟨σ, K, fun Q => ?_, RepX_o hX fun i q a => k2 i q (by omega), fun i q a => k2 i q (by omega)⟩
  simp (disch := first | exact cat_i _ | exact cat_r _ | exact cat_n | omega) only [e97, u97_0, u97_1, u97_4, u97_5, u97_8, u97_11, hT_0, hT_52, hT_50, hR_0_4, hR_0_5, k1, if_pos, if_neg, ↓reduceIte, false_and, and_false, false_or, or_false, ite_not, decide_true, decide_false, Bool.true_eq_false, Bool.false_eq_true, decide_eq_true_eq, decide_eq_false_iff_not, hp_I, hp_sI, hp_N, ev_k_s, ev_k_n, true_and, and_true, true_or, or_true, not_true_eq_false, not_false_eq_true, if_true, if_false, ite_self, Option.some.injEq, exists_eq_left', nb_0, nb_1, nb_z, zI_t, zI_f, zI_e, cat_i, cat_r, cat_n, iI_add, iI_sub, iI_mul, iI_neg, iI_lt, iI_le, iI_eq, iI_idx, iI_inT, iI_ne0, ite_false, ite_true, iN_0, iN_1, Int.reduceAdd, Int.reduceSub, Int.reduceMul, Int.reduceNeg, Int.reduceDiv, Int.reduceMod, Int.reduceEq, Int.reduceLT, Int.reduceLE, Int.reduceToNat, Nat.reduceAdd, Nat.reduceSub, Nat.reduceMul, Nat.reduceLT, Nat.reduceLeDiff, Nat.reduceEqDiff, Int.cast_ofNat_Int, Std.le_refl, and_self, Int.toNat_natCast, Int.toNat_zero, Nat.le_refl]
end RA
