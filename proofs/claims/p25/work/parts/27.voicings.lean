theorem lx {α : Type} (W : (Option Value → fb_H → Prop) → α → Nat → Prop) (P : α → Nat → Prop) (N : Nat) (st : ∀ a k, k < N → P a k → ∃ a', P a' (k + 1) ∧ ∀ Q, W Q a k = W Q a' (k + 1)) : ∀ j k a, k + j = N → P a k → ∃ a', P a' N ∧ ∀ Q, W Q a k = W Q a' N := by
  intro j
  induction j with
  | zero =>
    intro k a e p
    cases (show k = N by omega)
    exact ⟨a, p, fun _ => rfl⟩
  | succ j ih =>
    intro k a e p
    obtain ⟨a1, p1, e1⟩ := st a k (by omega) p
    obtain ⟨a2, p2, e2⟩ := ih (k + 1) a1 (by omega) p1
    exact ⟨a2, p2, fun Q => (e1 Q).trans (e2 Q)⟩
theorem RepP_o {I J : Nat → Nat → Int32} {t : Nat} {S : Co} (hr : RepP I t S) (h : ∀ i q, t ≤ i → i ≤ t + 4 → J i q = I i q) : RepP J t S := by
  obtain ⟨r0, r1, r2, r3, r4⟩ := hr
  refine ⟨by rw [h _ _ (by omega) (by omega)]; exact r0, by rw [h _ _ (by omega) (by omega)]; exact r1, by rw [h _ _ (by omega) (by omega)]; exact r2, by rw [h _ _ (by omega) (by omega)]; exact r3, fun c hc => ?_⟩
  rw [h _ _ (by omega) (by omega), h _ _ (by omega) (by omega), h _ _ (by omega) (by omega)]
  exact r4 c hc
def RepV (I : Nat → Nat → Int32) (t : Nat) (l : List (Nat × Nat × Nat)) : Prop := I t 1 = iI (l.length : Int) ∧ l.length ≤ 20 ∧ (∀ v, v ∈ l → VV v) ∧ ∀ k, k < l.length → I (t + 1) k = iI ((pkv (l.getD k (0, 0, 0)) : Nat) : Int)
def OthV (I J : Nat → Nat → Int32) (t : Nat) : Prop := ∀ i q, i ≠ t → i ≠ t + 1 → J i q = I i q
section VO
variable {Q : Option Value → fb_H → Prop} {c d z : Int} {n m b b' : Nat} {v w : Nat × Nat × Nat} {L t y : Nat} {σ : Nat → Nat} {I : Nat → Nat → Int32} {S : Co} {l : List (Nat × Nat × Nat)}
theorem RepV_in (hr : RepV I y l) (hn : n < l.length) : VV (l.getD n (0, 0, 0)) := by
  refine hr.2.2.1 _ ?_
  rw [List.getD_eq_getElem?_getD, List.getElem?_eq_getElem hn]
  exact List.getElem_mem hn
theorem c71 (hy : isv y) (hr : RepV I y l) : ev_c 71 [.ref y] (hp L σ I) Q = Q (some (.int (iI (l.length : Int)))) (hp L σ I) := by
  simp (disch := first | exact cat_i _ | exact cat_r _ | exact cat_n | omega) only [e71, u71_0, u71_1, u71_4, hT_v hy, hr.1, ↓reduceIte, false_and, and_false, false_or, or_false, ite_not, decide_true, decide_false, Bool.true_eq_false, Bool.false_eq_true, decide_eq_true_eq, decide_eq_false_iff_not, hp_I, hp_sI, hp_N, ev_k_s, ev_k_n, true_and, and_true, true_or, or_true, not_true_eq_false, not_false_eq_true, if_true, if_false, ite_self, Option.some.injEq, exists_eq_left', nb_0, nb_1, nb_z, zI_t, zI_f, zI_e, cat_i, cat_r, cat_n, iI_add, iI_sub, iI_mul, iI_neg, iI_lt, iI_le, iI_eq, iI_idx, iI_inT, iI_ne0, ite_false, ite_true, iN_0, iN_1, Int.reduceAdd, Int.reduceSub, Int.reduceMul, Int.reduceNeg, Int.reduceDiv, Int.reduceMod, Int.reduceEq, Int.reduceLT, Int.reduceLE, Int.reduceToNat, Nat.reduceAdd, Nat.reduceSub, Nat.reduceMul, Nat.reduceLT, Nat.reduceLeDiff, Nat.reduceEqDiff, Int.cast_ofNat_Int, Std.le_refl, and_self, Int.toNat_natCast, Int.toNat_zero, Nat.le_refl]
theorem c72 (hy : isv y) (hr : RepV I y l) (hn : n < l.length) : ev_c 72 [.ref y, .int (iI (n : Int))] (hp L σ I) Q = Q (some (.int (iI ((pkv (l.getD n (0, 0, 0)) : Nat) : Int)))) (hp L σ I) := by
  have h20 := hr.2.1
  simp (disch := first | exact cat_i _ | exact cat_r _ | exact cat_n | omega) only [e72, u72_0, u72_1, u72_4, u72_5, u72_6, u72_9, u72_12, u72_13, u72_16, u72_17, u72_18, u72_21, u72_22, hT_v hy, hT_v1 hy, hR_v0 hy, hr.1, hr.2.2.2 n hn, if_pos, if_neg, ↓reduceIte, false_and, and_false, false_or, or_false, ite_not, decide_true, decide_false, Bool.true_eq_false, Bool.false_eq_true, decide_eq_true_eq, decide_eq_false_iff_not, hp_I, hp_sI, hp_N, ev_k_s, ev_k_n, true_and, and_true, true_or, or_true, not_true_eq_false, not_false_eq_true, if_true, if_false, ite_self, Option.some.injEq, exists_eq_left', nb_0, nb_1, nb_z, zI_t, zI_f, zI_e, cat_i, cat_r, cat_n, iI_add, iI_sub, iI_mul, iI_neg, iI_lt, iI_le, iI_eq, iI_idx, iI_inT, iI_ne0, ite_false, ite_true, iN_0, iN_1, Int.reduceAdd, Int.reduceSub, Int.reduceMul, Int.reduceNeg, Int.reduceDiv, Int.reduceMod, Int.reduceEq, Int.reduceLT, Int.reduceLE, Int.reduceToNat, Nat.reduceAdd, Nat.reduceSub, Nat.reduceMul, Nat.reduceLT, Nat.reduceLeDiff, Nat.reduceEqDiff, Int.cast_ofNat_Int, Std.le_refl, and_self, Int.toNat_natCast, Int.toNat_zero, Nat.le_refl]
theorem c75 {z : Nat} (hm : m < 4096) (hz : z ≤ 99) {h : fb_H} : ev_c 75 [.int (iI (m : Int)), .int (iI (z : Int))] h Q = Q (some (.int (zI (m.testBit (z % 12))))) h := by
  simp (disch := first | exact cat_i _ | exact cat_r _ | exact cat_n | omega) only [e75, u75_0, u75_1, u75_2, u75_5, u75_8, c105, c106, tn12, ↓reduceIte, false_and, and_false, false_or, or_false, ite_not, decide_true, decide_false, Bool.true_eq_false, Bool.false_eq_true, decide_eq_true_eq, decide_eq_false_iff_not, hp_I, hp_sI, hp_N, ev_k_s, ev_k_n, true_and, and_true, true_or, or_true, not_true_eq_false, not_false_eq_true, if_true, if_false, ite_self, Option.some.injEq, exists_eq_left', nb_0, nb_1, nb_z, zI_t, zI_f, zI_e, cat_i, cat_r, cat_n, iI_add, iI_sub, iI_mul, iI_neg, iI_lt, iI_le, iI_eq, iI_idx, iI_inT, iI_ne0, ite_false, ite_true, iN_0, iN_1, Int.reduceAdd, Int.reduceSub, Int.reduceMul, Int.reduceNeg, Int.reduceDiv, Int.reduceMod, Int.reduceEq, Int.reduceLT, Int.reduceLE, Int.reduceToNat, Nat.reduceAdd, Nat.reduceSub, Nat.reduceMul, Nat.reduceLT, Nat.reduceLeDiff, Nat.reduceEqDiff, Int.cast_ofNat_Int, Std.le_refl, and_self, Int.toNat_natCast, Int.toNat_zero, Nat.le_refl]
theorem c76 (hy : isv y) (hr : RepV I y l) (hl : l.length < 20) (hv : VV v) : ∃ J, (∀ Q : Option Value → fb_H → Prop, ev_c 76 [.ref y, .int (iI ((pkv v : Nat) : Int))] (hp L σ I) Q = Q none (hp L σ J)) ∧ RepV J y (l ++ [v]) ∧ OthV I J y := by
  have e1 : fb_u2 I (y + 1) l.length (iI ((pkv v : Nat) : Int)) y 1 = iI (l.length : Int) := (u2_ne (by omega)).trans hr.1
  refine ⟨fb_u2 (fb_u2 I (y + 1) l.length (iI ((pkv v : Nat) : Int))) y 1 (iI ((l.length : Int) + 1)), fun Q => ?_, ⟨?_, ?_, ?_, fun k hk => ?_⟩, fun i q h1 h2 => ?_⟩
  · simp (disch := first | exact cat_i _ | exact cat_r _ | exact cat_n | omega) only [e76, u76_0, u76_1, u76_4, u76_5, u76_8, u76_9, u76_12, u76_13, u76_16, u76_17, u76_20, u76_21, u76_22, u76_23, u76_24, u76_27, u76_28, u76_29, u76_32, hT_v hy, hT_v1 hy, hR_v0 hy, hr.1, e1, if_pos, if_neg, ↓reduceIte, false_and, and_false, false_or, or_false, ite_not, decide_true, decide_false, Bool.true_eq_false, Bool.false_eq_true, decide_eq_true_eq, decide_eq_false_iff_not, hp_I, hp_sI, hp_N, ev_k_s, ev_k_n, true_and, and_true, true_or, or_true, not_true_eq_false, not_false_eq_true, if_true, if_false, ite_self, Option.some.injEq, exists_eq_left', nb_0, nb_1, nb_z, zI_t, zI_f, zI_e, cat_i, cat_r, cat_n, iI_add, iI_sub, iI_mul, iI_neg, iI_lt, iI_le, iI_eq, iI_idx, iI_inT, iI_ne0, ite_false, ite_true, iN_0, iN_1, Int.reduceAdd, Int.reduceSub, Int.reduceMul, Int.reduceNeg, Int.reduceDiv, Int.reduceMod, Int.reduceEq, Int.reduceLT, Int.reduceLE, Int.reduceToNat, Nat.reduceAdd, Nat.reduceSub, Nat.reduceMul, Nat.reduceLT, Nat.reduceLeDiff, Nat.reduceEqDiff, Int.cast_ofNat_Int, Std.le_refl, and_self, Int.toNat_natCast, Int.toNat_zero, Nat.le_refl]
  · rw [u2_eq, List.length_append]; rfl
  · rw [List.length_append]; show l.length + 1 ≤ 20; omega
  · intro x hx
    rcases List.mem_append.mp hx with hx | hx
    · exact hr.2.2.1 x hx
    · rw [List.mem_singleton.mp hx]; exact hv
  · rw [List.length_append] at hk
    have hk2 : k < l.length + 1 := hk
    rw [u2_ne (by omega), List.getD_eq_getElem?_getD]
    by_cases q : k = l.length
    · subst q; rw [u2_eq, List.getElem?_append_right (Nat.le_refl _), Nat.sub_self]; rfl
    · rw [u2_ne (by omega), List.getElem?_append_left (by omega), ← List.getD_eq_getElem?_getD]
      exact hr.2.2.2 k (by omega)
  · rw [u2_ne (by omega), u2_ne (by omega)]
theorem c73 (hy : isv y) (hv : VV v) : ∃ J, (∀ Q : Option Value → fb_H → Prop, ev_c 73 [.ref y, .int (iI ((pkv v : Nat) : Int))] (hp L σ I) Q = Q none (hp L σ J)) ∧ RepV J y [v] ∧ OthV I J y := by
  have h0 : RepV (fb_u2 I y 1 (iI 0)) y [] := ⟨u2_eq, by decide, fun _ h => absurd h List.not_mem_nil, fun k h => absurd h (Nat.not_lt_zero k)⟩
  obtain ⟨J, h1, h2, h3⟩ := c76 (L := L) (σ := σ) hy h0 (by decide) hv
  refine ⟨J, fun Q => ?_, h2, fun i q a b => ?_⟩
  · simp (disch := first | exact cat_i _ | exact cat_r _ | exact cat_n | omega) only [e73, u73_0, u73_1, u73_2, u73_5, u73_6, u73_7, u73_10, hT_v hy, h1, if_pos, if_neg, ↓reduceIte, false_and, and_false, false_or, or_false, ite_not, decide_true, decide_false, Bool.true_eq_false, Bool.false_eq_true, decide_eq_true_eq, decide_eq_false_iff_not, hp_I, hp_sI, hp_N, ev_k_s, ev_k_n, true_and, and_true, true_or, or_true, not_true_eq_false, not_false_eq_true, if_true, if_false, ite_self, Option.some.injEq, exists_eq_left', nb_0, nb_1, nb_z, zI_t, zI_f, zI_e, cat_i, cat_r, cat_n, iI_add, iI_sub, iI_mul, iI_neg, iI_lt, iI_le, iI_eq, iI_idx, iI_inT, iI_ne0, ite_false, ite_true, iN_0, iN_1, Int.reduceAdd, Int.reduceSub, Int.reduceMul, Int.reduceNeg, Int.reduceDiv, Int.reduceMod, Int.reduceEq, Int.reduceLT, Int.reduceLE, Int.reduceToNat, Nat.reduceAdd, Nat.reduceSub, Nat.reduceMul, Nat.reduceLT, Nat.reduceLeDiff, Nat.reduceEqDiff, Int.cast_ofNat_Int, Std.le_refl, and_self, Int.toNat_natCast, Int.toNat_zero, Nat.le_refl]
  · rw [h3 i q a b, u2_ne (by omega)]
end VO
