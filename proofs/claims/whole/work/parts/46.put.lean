def cds (z : Int64) (m k : Nat) : List Nat := (List.range k).map fun j => cod z (m - 1 - j)
def opPut (A : AS) (z : Int64) : Int × AS := if chs z = 0 then (-2, A) else if 80 < A.2.2.2.length + chs z then (-4, A) else (((A.2.2.2.length + chs z : Nat) : Int), (A.1, A.2.1, A.2.2.1, A.2.2.2 ++ cds z (chs z) (chs z)))
theorem chI_in (z : Int64) : ∀ f k, k + f = 8 → chI z f k ≤ 8 ∧ (chI z f k ≠ 0 → k ≤ chI z f k ∧ ∀ j, k ≤ j → j < chI z f k → 33 ≤ cod z j ∧ cod z j ≤ 126)
  | 0, k, h => by
    unfold chI
    exact ⟨by omega, fun _ => ⟨Nat.le_refl _, fun j a b => by omega⟩⟩
  | f + 1, k, h => by
    unfold chI
    split
    · split
      · exact ⟨by omega, fun _ => ⟨Nat.le_refl _, fun j a b => by omega⟩⟩
      · exact ⟨by omega, fun e => absurd rfl e⟩
    · split
      · exact ⟨by omega, fun e => absurd rfl e⟩
      · obtain ⟨i1, i2⟩ := chI_in z f (k + 1) (by omega)
        refine ⟨i1, fun e => ?_⟩
        obtain ⟨i3, i4⟩ := i2 e
        refine ⟨by omega, fun j a b => ?_⟩
        by_cases q : j = k
        · subst q; omega
        · exact i4 j (by omega) b
theorem chs_in (z : Int64) : chs z ≤ 8 ∧ ∀ j, j < chs z → 33 ≤ cod z j ∧ cod z j ≤ 126 := by
  obtain ⟨h1, h2⟩ := chI_in z 8 0 rfl
  refine ⟨h1, fun j hj => (h2 ?_).2 j (Nat.zero_le _) hj⟩
  show chs z ≠ 0
  omega
section PU
variable {L : Nat} {σ : Nat → Nat} {I : Nat → Nat → Int32} {A : AS} {x y p q r : Int} {Q : Option Value → fb_H → Prop} {h : fb_H} {z : Int64} {T : List Nat}
theorem c11 (hT : RepT I T) {m : Nat} (hm : m ≤ 8) (hc : ∀ j, j < m → 33 ≤ cod z j ∧ cod z j ≤ 126) (h80 : T.length + m ≤ 80) : ∃ J, (∀ Q : Option Value → fb_H → Prop, ev_c 11 [.ref 50, .long z, .int (iI (m : Int))] (hp L σ I) Q = Q none (hp L σ J)) ∧ RepT J (T ++ cds z m m) ∧ ∀ i q, i ≠ 50 → i ≠ 51 → J i q = I i q := by
  obtain ⟨J, ⟨p1, p2⟩, e⟩ := lx (fun Q (J : Nat → Nat → Int32) (k : Nat) => ev_w 11 5 [.ref 50, .long z, .null, .int (iI (m : Int)), .int (iI ((m : Int) - 1 - (k : Int)))] [] (hp L σ J) Q) (fun J k => RepT J (T ++ cds z m k) ∧ ∀ i q, i ≠ 50 → i ≠ 51 → J i q = I i q) m (fun B k hk hp' => by
    obtain ⟨j1, j2⟩ := hp'
    have ek : (m : Int) - 1 - (k : Int) = ((m - 1 - k : Nat) : Int) := by omega
    have ek2 : ((m - 1 - k : Nat) : Int) + -1 = (m : Int) - 1 - ((k + 1 : Nat) : Int) := by omega
    have hlen : (T ++ cds z m k).length = T.length + k := by unfold cds; rw [List.length_append, List.length_map, List.length_range]
    have hl1 := j1.1
    rw [hlen] at hl1
    have hck := hc (m - 1 - k) (by omega)
    have hcl := cod_lt z (m - 1 - k)
    have hsplit : T ++ cds z m (k + 1) = (T ++ cds z m k) ++ [cod z (m - 1 - k)] := by unfold cds; rw [List.range_succ, List.map_append, List.append_assoc]; rfl
    have e50 : fb_u2 B 51 (T.length + k) (iI ((cod z (m - 1 - k) : Nat) : Int)) 50 1 = iI ((T.length + k : Nat) : Int) := (u2_ne (by omega)).trans hl1
    refine ⟨fb_u2 (fb_u2 B 51 (T.length + k) (iI ((cod z (m - 1 - k) : Nat) : Int))) 50 1 (iI (((T.length + k : Nat) : Int) + 1)), ⟨⟨?_, ?_, ?_, fun q hq => ?_⟩, fun i q a b => (u2_ne (by omega)).trans ((u2_ne (by omega)).trans (j2 i q a b))⟩, fun Q => ?_⟩
    · rw [hsplit, List.length_append, hlen]; exact u2_eq
    · rw [hsplit, List.length_append, hlen]; show T.length + k + 1 ≤ 80; omega
    · intro c hc'
      rw [hsplit] at hc'
      rcases List.mem_append.mp hc' with h | h
      · exact j1.2.2.1 c h
      · rw [List.mem_singleton.mp h]; exact hck
    · rw [hsplit, List.length_append, hlen] at hq
      have hq2 : q < T.length + k + 1 := hq
      rw [hsplit, u2_ne (by omega), List.getD_eq_getElem?_getD]
      by_cases q1 : q = T.length + k
      · subst q1
        rw [u2_eq, List.getElem?_append_right (by omega), hlen, Nat.sub_self]
        rfl
      · rw [u2_ne (by omega), List.getElem?_append_left (by omega), ← List.getD_eq_getElem?_getD]
        exact j1.2.2.2 q (by omega)
    · show ev_w 11 5 [.ref 50, .long z, .null, .int (iI (m : Int)), .int (iI ((m : Int) - 1 - (k : Int)))] [] (hp L σ B) Q = _
      rw [ek, u11_5]
      simp (disch := first | exact cat_i _ | exact cat_r _ | exact cat_n | omega) only [u11_7, u11_10, u11_11, u11_14, u11_16, u11_19, u11_20, u11_23, u11_24, u11_27, u11_28, u11_30, u11_33, u11_34, u11_35, u11_36, u11_37, u11_40, u11_41, u11_42, u11_45, u11_48, hT_50, hT_51, hR_50_0, hl1, c10 (z := z) (show m - 1 - k < 8 by omega), vp_c _ hcl, e50, ek2, if_pos, if_neg, ↓reduceIte, false_and, and_false, false_or, or_false, ite_not, decide_true, decide_false, Bool.true_eq_false, Bool.false_eq_true, decide_eq_true_eq, decide_eq_false_iff_not, hp_I, hp_sI, hp_N, ev_k_s, ev_k_n, true_and, and_true, true_or, or_true, not_true_eq_false, not_false_eq_true, if_true, if_false, ite_self, Option.some.injEq, exists_eq_left', nb_0, nb_1, nb_z, zI_t, zI_f, zI_e, cat_i, cat_r, cat_n, iI_add, iI_sub, iI_mul, iI_neg, iI_lt, iI_le, iI_eq, iI_idx, iI_inT, iI_ne0, ite_false, ite_true, iN_0, iN_1, Int.reduceAdd, Int.reduceSub, Int.reduceMul, Int.reduceNeg, Int.reduceDiv, Int.reduceMod, Int.reduceEq, Int.reduceLT, Int.reduceLE, Int.reduceToNat, Nat.reduceAdd, Nat.reduceSub, Nat.reduceMul, Nat.reduceLT, Nat.reduceLeDiff, Nat.reduceEqDiff, Int.cast_ofNat_Int, Std.le_refl, and_self, Int.toNat_natCast, Int.toNat_zero, Nat.le_refl]) m 0 I (by omega) ⟨by unfold cds; rw [show (List.range 0) = [] from rfl, List.map_nil, List.append_nil]; exact hT, fun _ _ _ _ => rfl⟩
  refine ⟨J, fun Q => ?_, p1, p2⟩
  have e0 := e Q
  clear e
  rw [show (m : Int) - 1 - ((0 : Nat) : Int) = (m : Int) - 1 by omega, show (m : Int) - 1 - (m : Int) = -1 by omega] at e0
  simp (disch := first | exact cat_i _ | exact cat_r _ | exact cat_n | omega) only [u11_0, u11_1, u11_2, u11_3, e11, ↓reduceIte, false_and, and_false, false_or, or_false, ite_not, decide_true, decide_false, Bool.true_eq_false, Bool.false_eq_true, decide_eq_true_eq, decide_eq_false_iff_not, hp_I, hp_sI, hp_N, ev_k_s, ev_k_n, true_and, and_true, true_or, or_true, not_true_eq_false, not_false_eq_true, if_true, if_false, ite_self, Option.some.injEq, exists_eq_left', nb_0, nb_1, nb_z, zI_t, zI_f, zI_e, cat_i, cat_r, cat_n, iI_add, iI_sub, iI_mul, iI_neg, iI_lt, iI_le, iI_eq, iI_idx, iI_inT, iI_ne0, ite_false, ite_true, iN_0, iN_1, Int.reduceAdd, Int.reduceSub, Int.reduceMul, Int.reduceNeg, Int.reduceDiv, Int.reduceMod, Int.reduceEq, Int.reduceLT, Int.reduceLE, Int.reduceToNat, Nat.reduceAdd, Nat.reduceSub, Nat.reduceMul, Nat.reduceLT, Nat.reduceLeDiff, Nat.reduceEqDiff, Int.cast_ofNat_Int, Std.le_refl, and_self, Int.toNat_natCast, Int.toNat_zero, Nat.le_refl]
  refine e0.trans ?_
  simp (disch := first | exact cat_i _ | exact cat_r _ | exact cat_n | omega) only [u11_5, u11_7, u11_51, if_pos, if_neg, ↓reduceIte, false_and, and_false, false_or, or_false, ite_not, decide_true, decide_false, Bool.true_eq_false, Bool.false_eq_true, decide_eq_true_eq, decide_eq_false_iff_not, hp_I, hp_sI, hp_N, ev_k_s, ev_k_n, true_and, and_true, true_or, or_true, not_true_eq_false, not_false_eq_true, if_true, if_false, ite_self, Option.some.injEq, exists_eq_left', nb_0, nb_1, nb_z, zI_t, zI_f, zI_e, cat_i, cat_r, cat_n, iI_add, iI_sub, iI_mul, iI_neg, iI_lt, iI_le, iI_eq, iI_idx, iI_inT, iI_ne0, ite_false, ite_true, iN_0, iN_1, Int.reduceAdd, Int.reduceSub, Int.reduceMul, Int.reduceNeg, Int.reduceDiv, Int.reduceMod, Int.reduceEq, Int.reduceLT, Int.reduceLE, Int.reduceToNat, Nat.reduceAdd, Nat.reduceSub, Nat.reduceMul, Nat.reduceLT, Nat.reduceLeDiff, Nat.reduceEqDiff, Int.cast_ofNat_Int, Std.le_refl, and_self, Int.toNat_natCast, Int.toNat_zero, Nat.le_refl]
theorem x95 (hX : RepX σ I A) (hs : StI I) : XR L σ I 95 [.ref 0, .long z] (opPut A z) := by
  obtain ⟨h1, h2, h3, h4, h5, h6⟩ := id hX
  obtain ⟨c1', c2'⟩ := chs_in z
  have h80 := h6.2.1
  have e9' := fun Q h => c9 (z := z) (Q := Q) (h := h)
  have e6' := fun Q => c6 (L := L) (σ := σ) (Q := Q) h6
  unfold opPut
  by_cases q0 : chs z = 0
  · rw [if_pos q0]
    rw [q0] at e9'
    refine XR_id hX fun Q => ?_
    simp (disch := first | exact cat_i _ | exact cat_r _ | exact cat_n | omega) only [e95, u95_0, u95_1, u95_4, u95_5, u95_6, u95_9, u95_11, u95_12, u95_13, u95_16, u95_19, u95_20, u95_21, u95_23, u95_26, u95_28, u95_29, u95_30, u95_33, u95_34, u95_35, u95_38, u95_39, u95_42, u95_45, hT_0, hT_50, hR_0_4, e9', Int.cast_ofNat_Int, if_pos, if_neg, ↓reduceIte, false_and, and_false, false_or, or_false, ite_not, decide_true, decide_false, Bool.true_eq_false, Bool.false_eq_true, decide_eq_true_eq, decide_eq_false_iff_not, hp_I, hp_sI, hp_N, ev_k_s, ev_k_n, true_and, and_true, true_or, or_true, not_true_eq_false, not_false_eq_true, if_true, if_false, ite_self, Option.some.injEq, exists_eq_left', nb_0, nb_1, nb_z, zI_t, zI_f, zI_e, cat_i, cat_r, cat_n, iI_add, iI_sub, iI_mul, iI_neg, iI_lt, iI_le, iI_eq, iI_idx, iI_inT, iI_ne0, ite_false, ite_true, iN_0, iN_1, Int.reduceAdd, Int.reduceSub, Int.reduceMul, Int.reduceNeg, Int.reduceDiv, Int.reduceMod, Int.reduceEq, Int.reduceLT, Int.reduceLE, Int.reduceToNat, Nat.reduceAdd, Nat.reduceSub, Nat.reduceMul, Nat.reduceLT, Nat.reduceLeDiff, Nat.reduceEqDiff, Int.cast_ofNat_Int, Std.le_refl, and_self, Int.toNat_natCast, Int.toNat_zero, Nat.le_refl]
  · rw [if_neg q0]
    by_cases q1 : 80 < A.2.2.2.length + chs z
    · rw [if_pos q1]
      refine XR_id hX fun Q => ?_
      simp (disch := first | exact cat_i _ | exact cat_r _ | exact cat_n | omega) only [e95, u95_0, u95_1, u95_4, u95_5, u95_6, u95_9, u95_11, u95_12, u95_13, u95_16, u95_19, u95_20, u95_21, u95_23, u95_26, u95_28, u95_29, u95_30, u95_33, u95_34, u95_35, u95_38, u95_39, u95_42, u95_45, hT_0, hT_50, hR_0_4, e9', e6', if_pos, if_neg, ↓reduceIte, false_and, and_false, false_or, or_false, ite_not, decide_true, decide_false, Bool.true_eq_false, Bool.false_eq_true, decide_eq_true_eq, decide_eq_false_iff_not, hp_I, hp_sI, hp_N, ev_k_s, ev_k_n, true_and, and_true, true_or, or_true, not_true_eq_false, not_false_eq_true, if_true, if_false, ite_self, Option.some.injEq, exists_eq_left', nb_0, nb_1, nb_z, zI_t, zI_f, zI_e, cat_i, cat_r, cat_n, iI_add, iI_sub, iI_mul, iI_neg, iI_lt, iI_le, iI_eq, iI_idx, iI_inT, iI_ne0, ite_false, ite_true, iN_0, iN_1, Int.reduceAdd, Int.reduceSub, Int.reduceMul, Int.reduceNeg, Int.reduceDiv, Int.reduceMod, Int.reduceEq, Int.reduceLT, Int.reduceLE, Int.reduceToNat, Nat.reduceAdd, Nat.reduceSub, Nat.reduceMul, Nat.reduceLT, Nat.reduceLeDiff, Nat.reduceEqDiff, Int.cast_ofNat_Int, Std.le_refl, and_self, Int.toNat_natCast, Int.toNat_zero, Nat.le_refl]
    · rw [if_neg q1]
      obtain ⟨J, j1, j2, j3⟩ := c11 (L := L) (σ := σ) (z := z) h6 c1' c2' (by omega)
      have e6J := fun Q => c6 (L := L) (σ := σ) (Q := Q) j2
      have hlen : (A.2.2.2 ++ cds z (chs z) (chs z)).length = A.2.2.2.length + chs z := by unfold cds; rw [List.length_append, List.length_map, List.length_range]
      rw [hlen] at e6J
      refine ⟨σ, J, fun Q => ?_, ⟨RepP_o h1 fun i q a b => j3 i q (by omega) (by omega), h2, h3, RepH_o h4 h3 fun i q a b => j3 i q (by omega) (by omega), RepSl_o h5 fun i q a b => j3 i q (by omega) (by omega), j2⟩, fun i q a => j3 i q (by omega) (by omega)⟩
      simp (disch := first | exact cat_i _ | exact cat_r _ | exact cat_n | omega) only [e95, u95_0, u95_1, u95_4, u95_5, u95_6, u95_9, u95_11, u95_12, u95_13, u95_16, u95_19, u95_20, u95_21, u95_23, u95_26, u95_28, u95_29, u95_30, u95_33, u95_34, u95_35, u95_38, u95_39, u95_42, u95_45, hT_0, hT_50, hR_0_4, e9', e6', j1, e6J, if_pos, if_neg, ↓reduceIte, false_and, and_false, false_or, or_false, ite_not, decide_true, decide_false, Bool.true_eq_false, Bool.false_eq_true, decide_eq_true_eq, decide_eq_false_iff_not, hp_I, hp_sI, hp_N, ev_k_s, ev_k_n, true_and, and_true, true_or, or_true, not_true_eq_false, not_false_eq_true, if_true, if_false, ite_self, Option.some.injEq, exists_eq_left', nb_0, nb_1, nb_z, zI_t, zI_f, zI_e, cat_i, cat_r, cat_n, iI_add, iI_sub, iI_mul, iI_neg, iI_lt, iI_le, iI_eq, iI_idx, iI_inT, iI_ne0, ite_false, ite_true, iN_0, iN_1, Int.reduceAdd, Int.reduceSub, Int.reduceMul, Int.reduceNeg, Int.reduceDiv, Int.reduceMod, Int.reduceEq, Int.reduceLT, Int.reduceLE, Int.reduceToNat, Nat.reduceAdd, Nat.reduceSub, Nat.reduceMul, Nat.reduceLT, Nat.reduceLeDiff, Nat.reduceEqDiff, Int.cast_ofNat_Int, Std.le_refl, and_self, Int.toNat_natCast, Int.toNat_zero, Nat.le_refl]
end PU
