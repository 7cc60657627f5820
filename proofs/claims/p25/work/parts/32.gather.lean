def chl (S : Co) (c : Nat) : List (Nat × Nat × Nat) := match (ch S c).2.2 with
  | some v => [v]
  | none => wys S c
section GA
variable {Q : Option Value → fb_H → Prop} {n : Nat} {L t y : Nat} {σ : Nat → Nat} {I : Nat → Nat → Int32} {S : Co} {l : List (Nat × Nat × Nat)}
theorem isv_w {k : Nat} (h : k < 10) : isv (82 + 2 * k) := by
  unfold isv
  omega
theorem c51 (ht : isp t) (hr : RepP I t S) (hv : VS S) (hs : StI I) : ∃ J, (∀ Q : Option Value → fb_H → Prop, ev_c 51 [.ref 58, .ref t] (hp L σ I) Q = Q none (hp L σ J)) ∧ (∀ c, c < S.2.length → RepV J (82 + 2 * c) (chl S c)) ∧ ∀ i q, (i < 82 ∨ 102 ≤ i) → J i q = I i q := by
  have hl := hv.2.2.2.1
  have ht2 := isp_lt ht
  obtain ⟨J, p, e⟩ := lx (fun Q (J : Nat → Nat → Int32) (k : Nat) => ev_w 51 2 [.ref 58, .ref t, .int (iI (k : Int))] [] (hp L σ J) Q) (fun J k => (∀ c, c < k → RepV J (82 + 2 * c) (chl S c)) ∧ ∀ i q, (i < 82 ∨ 102 ≤ i) → J i q = I i q) S.2.length (fun A k hk hp' => by
    obtain ⟨j1, j2⟩ := hp'
    have hrA : RepP A t S := RepP_o hr fun i q _ _ => j2 i q (by omega)
    have hsA : StI A := StI_o hs fun i q _ => j2 i q (by omega)
    have hk10 : k < 10 := by omega
    have keep : ∀ B : Nat → Nat → Int32, RepV B (82 + 2 * k) (chl S k) → OthV A B (82 + 2 * k) → (∀ c, c < k + 1 → RepV B (82 + 2 * c) (chl S c)) ∧ ∀ i q, (i < 82 ∨ 102 ≤ i) → B i q = I i q := fun B h1 h2 => by
      refine ⟨fun c hc => ?_, fun i q hi => (h2 i q (by omega) (by omega)).trans (j2 i q hi)⟩
      by_cases q : c = k
      · subst q; exact h1
      · obtain ⟨a1, a2, a3, a4⟩ := j1 c (by omega)
        exact ⟨(h2 _ _ (by omega) (by omega)).trans a1, a2, a3, fun x hx => (h2 _ _ (by omega) (by omega)).trans (a4 x hx)⟩
    cases hw : (ch S k).2.2 with
    | none =>
      have hc : chl S k = wys S k := by unfold chl; rw [hw]
      obtain ⟨B, b1, b2, b3⟩ := c74 (L := L) (σ := σ) ht (isv_w hk10) hrA hv hsA hk (wys_cap hv hk)
      refine ⟨B, keep B (by rw [hc]; exact b2) b3, fun Q => ?_⟩
      show ev_w 51 2 [.ref 58, .ref t, .int (iI (k : Int))] [] (hp L σ A) Q = _
      rw [u51_2]
      simp (disch := first | exact cat_i _ | exact cat_r _ | exact cat_n | omega) only [u51_3, u51_4, u51_7, u51_10, u51_11, u51_12, u51_15, u51_18, u51_19, u51_22, u51_23, u51_24, u51_25, u51_26, u51_29, u51_32, u51_35, u51_36, u51_39, u51_40, u51_41, u51_42, u51_43, u51_46, u51_49, hT_p ht, hT_58, hT_59, hR_58_0, hR_59, hT_v (isv_w hk10), c25 ht hrA, c32 ht hrA hv hk, hw, Option.isSome_none, b1, if_pos, if_neg, ↓reduceIte, false_and, and_false, false_or, or_false, ite_not, decide_true, decide_false, Bool.true_eq_false, Bool.false_eq_true, decide_eq_true_eq, decide_eq_false_iff_not, hp_I, hp_sI, hp_N, ev_k_s, ev_k_n, true_and, and_true, true_or, or_true, not_true_eq_false, not_false_eq_true, if_true, if_false, ite_self, Option.some.injEq, exists_eq_left', nb_0, nb_1, nb_z, zI_t, zI_f, zI_e, cat_i, cat_r, cat_n, iI_add, iI_sub, iI_mul, iI_neg, iI_lt, iI_le, iI_eq, iI_idx, iI_inT, iI_ne0, ite_false, ite_true, iN_0, iN_1, Int.reduceAdd, Int.reduceSub, Int.reduceMul, Int.reduceNeg, Int.reduceDiv, Int.reduceMod, Int.reduceEq, Int.reduceLT, Int.reduceLE, Int.reduceToNat, Nat.reduceAdd, Nat.reduceSub, Nat.reduceMul, Nat.reduceLT, Nat.reduceLeDiff, Nat.reduceEqDiff, Int.cast_ofNat_Int, Std.le_refl, and_self, Int.toNat_natCast, Int.toNat_zero, Nat.le_refl]
      rfl
    | some v =>
      have hc : chl S k = [v] := by unfold chl; rw [hw]
      have hvv := (hv.2.2.2.2 k hk).2.2.2 v hw
      obtain ⟨B, b1, b2, b3⟩ := c73 (L := L) (σ := σ) (I := A) (isv_w hk10) hvv
      refine ⟨B, keep B (by rw [hc]; exact b2) b3, fun Q => ?_⟩
      show ev_w 51 2 [.ref 58, .ref t, .int (iI (k : Int))] [] (hp L σ A) Q = _
      rw [u51_2]
      simp (disch := first | exact cat_i _ | exact cat_r _ | exact cat_n | omega) only [u51_3, u51_4, u51_7, u51_10, u51_11, u51_12, u51_15, u51_18, u51_19, u51_22, u51_23, u51_24, u51_25, u51_26, u51_29, u51_32, u51_35, u51_36, u51_39, u51_40, u51_41, u51_42, u51_43, u51_46, u51_49, hT_p ht, hT_58, hT_59, hR_58_0, hR_59, hT_v (isv_w hk10), c25 ht hrA, c32 ht hrA hv hk, c31 ht hrA hv hk, hw, Option.isSome_some, pkO, b1, if_pos, if_neg, ↓reduceIte, false_and, and_false, false_or, or_false, ite_not, decide_true, decide_false, Bool.true_eq_false, Bool.false_eq_true, decide_eq_true_eq, decide_eq_false_iff_not, hp_I, hp_sI, hp_N, ev_k_s, ev_k_n, true_and, and_true, true_or, or_true, not_true_eq_false, not_false_eq_true, if_true, if_false, ite_self, Option.some.injEq, exists_eq_left', nb_0, nb_1, nb_z, zI_t, zI_f, zI_e, cat_i, cat_r, cat_n, iI_add, iI_sub, iI_mul, iI_neg, iI_lt, iI_le, iI_eq, iI_idx, iI_inT, iI_ne0, ite_false, ite_true, iN_0, iN_1, Int.reduceAdd, Int.reduceSub, Int.reduceMul, Int.reduceNeg, Int.reduceDiv, Int.reduceMod, Int.reduceEq, Int.reduceLT, Int.reduceLE, Int.reduceToNat, Nat.reduceAdd, Nat.reduceSub, Nat.reduceMul, Nat.reduceLT, Nat.reduceLeDiff, Nat.reduceEqDiff, Int.cast_ofNat_Int, Std.le_refl, and_self, Int.toNat_natCast, Int.toNat_zero, Nat.le_refl]
      rfl) S.2.length 0 I (by omega) ⟨fun c h => absurd h (Nat.not_lt_zero c), fun _ _ _ => rfl⟩
  refine ⟨J, fun Q => ?_, p.1, p.2⟩
  have hrJ : RepP J t S := RepP_o hr fun i q _ _ => p.2 i q (by omega)
  have e0 := e Q
  clear e
  simp (disch := first | exact cat_i _ | exact cat_r _ | exact cat_n | omega) only [u51_0, u51_1, e51, if_pos, if_neg, ↓reduceIte, false_and, and_false, false_or, or_false, ite_not, decide_true, decide_false, Bool.true_eq_false, Bool.false_eq_true, decide_eq_true_eq, decide_eq_false_iff_not, hp_I, hp_sI, hp_N, ev_k_s, ev_k_n, true_and, and_true, true_or, or_true, not_true_eq_false, not_false_eq_true, if_true, if_false, ite_self, Option.some.injEq, exists_eq_left', nb_0, nb_1, nb_z, zI_t, zI_f, zI_e, cat_i, cat_r, cat_n, iI_add, iI_sub, iI_mul, iI_neg, iI_lt, iI_le, iI_eq, iI_idx, iI_inT, iI_ne0, ite_false, ite_true, iN_0, iN_1, Int.reduceAdd, Int.reduceSub, Int.reduceMul, Int.reduceNeg, Int.reduceDiv, Int.reduceMod, Int.reduceEq, Int.reduceLT, Int.reduceLE, Int.reduceToNat, Nat.reduceAdd, Nat.reduceSub, Nat.reduceMul, Nat.reduceLT, Nat.reduceLeDiff, Nat.reduceEqDiff, Int.cast_ofNat_Int, Std.le_refl, and_self, Int.toNat_natCast, Int.toNat_zero, Nat.le_refl]
  refine Eq.trans e0 ?_
  simp (disch := first | exact cat_i _ | exact cat_r _ | exact cat_n | omega) only [u51_2, u51_3, u51_4, u51_7, u51_52, hT_p ht, c25 ht hrJ, if_pos, if_neg, ↓reduceIte, false_and, and_false, false_or, or_false, ite_not, decide_true, decide_false, Bool.true_eq_false, Bool.false_eq_true, decide_eq_true_eq, decide_eq_false_iff_not, hp_I, hp_sI, hp_N, ev_k_s, ev_k_n, true_and, and_true, true_or, or_true, not_true_eq_false, not_false_eq_true, if_true, if_false, ite_self, Option.some.injEq, exists_eq_left', nb_0, nb_1, nb_z, zI_t, zI_f, zI_e, cat_i, cat_r, cat_n, iI_add, iI_sub, iI_mul, iI_neg, iI_lt, iI_le, iI_eq, iI_idx, iI_inT, iI_ne0, ite_false, ite_true, iN_0, iN_1, Int.reduceAdd, Int.reduceSub, Int.reduceMul, Int.reduceNeg, Int.reduceDiv, Int.reduceMod, Int.reduceEq, Int.reduceLT, Int.reduceLE, Int.reduceToNat, Nat.reduceAdd, Nat.reduceSub, Nat.reduceMul, Nat.reduceLT, Nat.reduceLeDiff, Nat.reduceEqDiff, Int.cast_ofNat_Int, Std.le_refl, and_self, Int.toNat_natCast, Int.toNat_zero, Nat.le_refl]
end GA
