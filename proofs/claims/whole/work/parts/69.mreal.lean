/-! the first of the least -/
def fm (its : Nat → Nat) (a : Nat × Option Nat) (q : Nat) : Nat × Option Nat := if its q < a.1 then (its q, some q) else a
theorem fm_first (its : Nat → Nat) : ∀ k, ((List.range k).foldl (fm its) (1000000, none)).1 ≤ 1000000 ∧ (∀ q, ((List.range k).foldl (fm its) (1000000, none)).2 = some q → q < k ∧ its q = ((List.range k).foldl (fm its) (1000000, none)).1 ∧ ∀ j, j < q → its j ≠ ((List.range k).foldl (fm its) (1000000, none)).1) ∧ ∀ j, j < k → ((List.range k).foldl (fm its) (1000000, none)).1 ≤ its j
  | 0 => ⟨Nat.le_refl _, fun q e => (by cases e), fun j h => absurd h (Nat.not_lt_zero j)⟩
  | k + 1 => by
    obtain ⟨h1, h2, h3⟩ := fm_first its k
    rw [List.range_succ, List.foldl_append]
    show (fm its ((List.range k).foldl (fm its) (1000000, none)) k).1 ≤ 1000000 ∧ (∀ q, (fm its ((List.range k).foldl (fm its) (1000000, none)) k).2 = some q → q < k + 1 ∧ its q = (fm its ((List.range k).foldl (fm its) (1000000, none)) k).1 ∧ ∀ j, j < q → its j ≠ (fm its ((List.range k).foldl (fm its) (1000000, none)) k).1) ∧ ∀ j, j < k + 1 → (fm its ((List.range k).foldl (fm its) (1000000, none)) k).1 ≤ its j
    generalize (List.range k).foldl (fm its) (1000000, none) = a at *
    unfold fm
    split
    · rename_i h
      refine ⟨by dsimp only; omega, fun q e => ?_, fun j hj => ?_⟩
      · cases e
        exact ⟨by omega, rfl, fun j hj => by have := h3 j hj; dsimp only; omega⟩
      · dsimp only
        by_cases q : j = k
        · subst q; exact Nat.le_refl _
        · have := h3 j (by omega); omega
    · rename_i h
      refine ⟨h1, fun q e => ?_, fun j hj => ?_⟩
      · obtain ⟨a1, a2, a3⟩ := h2 q e
        exact ⟨by omega, a2, a3⟩
      · by_cases q : j = k
        · subst q; omega
        · exact h3 j (by omega)
/-- what a way costs -/
def its (S : Co) (c : Nat) (v : Nat × Nat × Nat) (g : Nat → Nat) (q : Nat) : Nat := if g q < 1000000 then jnc S c v ((chl S (c + 1)).getD q (0, 0, 0)) + g q else 1000000
theorem wst_fm {S : Co} {c q : Nat} {v : Nat × Nat × Nat} {g : Nat → Nat} {a : Nat × Option Nat} (ha : a.1 ≤ 1000000) : wst S c v g a q = fm (its S c v g) a q := by
  unfold wst fm its jnc
  generalize (chl S (c + 1)).getD q (0, 0, 0) = w
  cases jok S c v w <;> by_cases q1 : g q < 1000000 <;> by_cases q2 : dst v w + g q < a.1
  all_goals simp only [q1, q2, Bool.false_eq_true, and_true, and_false, if_true, if_false]
  all_goals repeat' split
  all_goals first | rfl | (exfalso; omega)
theorem wgh_fm (S : Co) (c : Nat) (v : Nat × Nat × Nat) (g : Nat → Nat) : ∀ k, (List.range k).foldl (wst S c v g) (1000000, none) = (List.range k).foldl (fm (its S c v g)) (1000000, none)
  | 0 => rfl
  | k + 1 => by
    rw [List.range_succ, List.foldl_append, List.foldl_append, wgh_fm S c v g k]
    exact wst_fm (fm_first _ k).1
theorem lst_fm (S : Co) : lst S = (List.range (chl S 0).length).foldl (fm (fun r => (tgc S 0 r).1)) (1000000, none) := rfl
section MG
variable {L : Nat} {σ : Nat → Nat} {I J K : Nat → Nat → Int32} {Q : Option Value → fb_H → Prop} {h : fb_H} {x y z iv : Int} {S : Co} {n m a o a' o' b b' f c r : Nat} {v w : Nat × Nat × Nat} {A : AS} {H : List Co}
/-- firstWith, of the first chord -/
theorem c147z (hr : RepS I 103 0 S) (hVS : VS S) (hc : 0 < S.2.length) (hL : RepL I 0 (chl S 0)) (hG : RowM S I 0 (chl S 0).length) (hq : (lst S).2 = some r) (hl6 : (lst S).1 < 1000000) : ev_c 147 [.ref 102, .int (iI 0), .int (iI (-6)), .int (iI ((lst S).1 : Int))] (hp L σ I) Q = Q (some (.int (iI (r : Int)))) (hp L σ I) := by
  have h20 := hL.2.1
  have hn1 := hL.1
  obtain ⟨f1, f2, f3⟩ := fm_first (fun r => (tgc S 0 r).1) (chl S 0).length
  rw [← lst_fm] at f1 f2 f3
  obtain ⟨g1, g2, g3⟩ := f2 r hq
  obtain ⟨x5, p1, e⟩ := lx (fun Q (x5 : Value) (k : Nat) => ev_w 147 3 [.ref 102, .int (iI 0), .int (iI (-6)), .int (iI ((lst S).1 : Int)), .int (iI (k : Int)), x5] [] (hp L σ I) Q) (fun x5 k => x5.category = 1) r (fun x5 k hk hp' => by
    have ht := hG k (by omega)
    have hne := g3 k hk
    have hle := tgc_le S 0 k
    have f0 : (0 + (k : Int)).toNat = k := by omega
    rw [Nat.mul_zero, Nat.zero_add] at ht
    refine ⟨.int (iI 0), cat_i _, fun Q => ?_⟩
    show ev_w 147 3 [.ref 102, .int (iI 0), .int (iI (-6)), .int (iI ((lst S).1 : Int)), .int (iI (k : Int)), x5] [] (hp L σ I) Q = _
    rw [u147_3]
    by_cases q : (tgc S 0 k).1 < 1000000
    · simp (disch := first | exact hp' | exact cat_i _ | exact cat_r _ | omega) only [u147_5, u147_6, u147_9, u147_10, u147_11, u147_14, u147_15, u147_18, u147_19, u147_22, u147_23, u147_24, u147_25, u147_27, u147_30, u147_32, u147_34, u147_36, u147_39, u147_40, u147_43, u147_46, u147_47, u147_48, u147_50, u147_51, u147_52, u147_54, u147_57, u147_59, u147_60, u147_63, u147_66, u147_67, u147_68, u147_70, u147_71, u147_72, u147_73, u147_74, u147_77, u147_79, u147_80, u147_83, hT_102, hT_111, hT_112, hR_102_10, hR_102_11, hn1, ht, f0, if_pos, if_neg, ↓reduceIte, false_and, and_false, false_or, or_false, ite_not, decide_true, decide_false, Bool.true_eq_false, Bool.false_eq_true, decide_eq_true_eq, decide_eq_false_iff_not, hp_I, hp_sI, hp_N, ev_k_s, ev_k_n, true_and, and_true, true_or, or_true, not_true_eq_false, not_false_eq_true, if_true, if_false, ite_self, Option.some.injEq, exists_eq_left', nb_0, nb_1, nb_z, zI_t, zI_f, zI_e, cat_i, cat_r, cat_n, iI_add, iI_sub, iI_mul, iI_neg, iI_lt, iI_le, iI_eq, iI_idx, iI_inT, iI_ne0, ite_false, ite_true, iN_0, iN_1, Int.reduceAdd, Int.reduceSub, Int.reduceMul, Int.reduceNeg, Int.reduceDiv, Int.reduceMod, Int.reduceEq, Int.reduceLT, Int.reduceLE, Int.reduceToNat, Nat.reduceAdd, Nat.reduceSub, Nat.reduceMul, Nat.reduceLT, Nat.reduceLeDiff, Nat.reduceEqDiff, Int.cast_ofNat_Int, Std.le_refl, and_self, Int.toNat_natCast, Int.toNat_zero, Nat.le_refl]
      all_goals rfl
    · simp (disch := first | exact hp' | exact cat_i _ | exact cat_r _ | omega) only [u147_5, u147_6, u147_9, u147_10, u147_11, u147_14, u147_15, u147_18, u147_19, u147_22, u147_23, u147_24, u147_25, u147_27, u147_30, u147_32, u147_34, u147_36, u147_39, u147_40, u147_43, u147_46, u147_47, u147_48, u147_50, u147_51, u147_52, u147_54, u147_57, u147_59, u147_60, u147_63, u147_66, u147_67, u147_68, u147_70, u147_71, u147_72, u147_73, u147_74, u147_77, u147_79, u147_80, u147_83, hT_102, hT_111, hT_112, hR_102_10, hR_102_11, hn1, ht, f0, if_pos, if_neg, ↓reduceIte, false_and, and_false, false_or, or_false, ite_not, decide_true, decide_false, Bool.true_eq_false, Bool.false_eq_true, decide_eq_true_eq, decide_eq_false_iff_not, hp_I, hp_sI, hp_N, ev_k_s, ev_k_n, true_and, and_true, true_or, or_true, not_true_eq_false, not_false_eq_true, if_true, if_false, ite_self, Option.some.injEq, exists_eq_left', nb_0, nb_1, nb_z, zI_t, zI_f, zI_e, cat_i, cat_r, cat_n, iI_add, iI_sub, iI_mul, iI_neg, iI_lt, iI_le, iI_eq, iI_idx, iI_inT, iI_ne0, ite_false, ite_true, iN_0, iN_1, Int.reduceAdd, Int.reduceSub, Int.reduceMul, Int.reduceNeg, Int.reduceDiv, Int.reduceMod, Int.reduceEq, Int.reduceLT, Int.reduceLE, Int.reduceToNat, Nat.reduceAdd, Nat.reduceSub, Nat.reduceMul, Nat.reduceLT, Nat.reduceLeDiff, Nat.reduceEqDiff, Int.cast_ofNat_Int, Std.le_refl, and_self, Int.toNat_natCast, Int.toNat_zero, Nat.le_refl]
      all_goals rfl) r 0 .null (by omega) rfl
  have e0 := e Q
  clear e
  have ht := hG r g1
  rw [Nat.mul_zero, Nat.zero_add, g2] at ht
  simp (disch := first | exact cat_i _ | exact cat_r _ | exact cat_n | omega) only [u147_0, u147_1, e147, if_pos, if_neg, ↓reduceIte, false_and, and_false, false_or, or_false, ite_not, decide_true, decide_false, Bool.true_eq_false, Bool.false_eq_true, decide_eq_true_eq, decide_eq_false_iff_not, hp_I, hp_sI, hp_N, ev_k_s, ev_k_n, true_and, and_true, true_or, or_true, not_true_eq_false, not_false_eq_true, if_true, if_false, ite_self, Option.some.injEq, exists_eq_left', nb_0, nb_1, nb_z, zI_t, zI_f, zI_e, cat_i, cat_r, cat_n, iI_add, iI_sub, iI_mul, iI_neg, iI_lt, iI_le, iI_eq, iI_idx, iI_inT, iI_ne0, ite_false, ite_true, iN_0, iN_1, Int.reduceAdd, Int.reduceSub, Int.reduceMul, Int.reduceNeg, Int.reduceDiv, Int.reduceMod, Int.reduceEq, Int.reduceLT, Int.reduceLE, Int.reduceToNat, Nat.reduceAdd, Nat.reduceSub, Nat.reduceMul, Nat.reduceLT, Nat.reduceLeDiff, Nat.reduceEqDiff, Int.cast_ofNat_Int, Std.le_refl, and_self, Int.toNat_natCast, Int.toNat_zero, Nat.le_refl]
  refine Eq.trans e0 ?_
  clear e0
  have f0 : (0 + (r : Int)).toNat = r := by omega
  simp (disch := first | exact p1 | exact cat_i _ | exact cat_r _ | omega) only [u147_3, u147_5, u147_6, u147_9, u147_10, u147_11, u147_14, u147_15, u147_18, u147_19, u147_22, u147_23, u147_24, u147_25, u147_27, u147_30, u147_32, u147_34, u147_36, u147_39, u147_40, u147_43, u147_46, u147_47, u147_48, u147_50, u147_51, u147_52, u147_54, u147_57, u147_59, u147_60, u147_63, u147_66, u147_67, u147_68, u147_70, u147_71, u147_72, u147_73, u147_74, u147_77, u147_79, hT_102, hT_111, hT_112, hR_102_10, hR_102_11, hn1, ht, f0, if_pos, if_neg, ↓reduceIte, false_and, and_false, false_or, or_false, ite_not, decide_true, decide_false, Bool.true_eq_false, Bool.false_eq_true, decide_eq_true_eq, decide_eq_false_iff_not, hp_I, hp_sI, hp_N, ev_k_s, ev_k_n, true_and, and_true, true_or, or_true, not_true_eq_false, not_false_eq_true, if_true, if_false, ite_self, Option.some.injEq, exists_eq_left', nb_0, nb_1, nb_z, zI_t, zI_f, zI_e, cat_i, cat_r, cat_n, iI_add, iI_sub, iI_mul, iI_neg, iI_lt, iI_le, iI_eq, iI_idx, iI_inT, iI_ne0, ite_false, ite_true, iN_0, iN_1, Int.reduceAdd, Int.reduceSub, Int.reduceMul, Int.reduceNeg, Int.reduceDiv, Int.reduceMod, Int.reduceEq, Int.reduceLT, Int.reduceLE, Int.reduceToNat, Nat.reduceAdd, Nat.reduceSub, Nat.reduceMul, Nat.reduceLT, Nat.reduceLeDiff, Nat.reduceEqDiff, Int.cast_ofNat_Int, Std.le_refl, and_self, Int.toNat_natCast, Int.toNat_zero, Nat.le_refl]
/-- firstWith, of a later chord -/
theorem c147s {p : Nat} (hr : RepS I 103 0 S) (hVS : VS S) (hc : c + 1 < S.2.length) (hE : RepE I c (chl S c)) (hL : RepL I (c + 1) (chl S (c + 1))) (hG : RowM S I (c + 1) (chl S (c + 1)).length) (hp1 : p < (chl S c).length) (hq : (tgc S c p).2 = some r) (hl6 : (tgc S c p).1 < 1000000) : ∃ J, (∀ Q : Option Value → fb_H → Prop, ev_c 147 [.ref 102, .int (iI ((c + 1 : Nat) : Int)), .int (iI (p : Int)), .int (iI ((tgc S c p).1 : Int))] (hp L σ I) Q = Q (some (.int (iI (r : Int)))) (hp L σ J)) ∧ OthF I J := by
  have hl := hVS.2.2.2.1
  have h20 := hL.2.1
  rw [tgc_step hc] at hq hl6 ⊢
  have hgq : ∀ q, (fun q => (tgc S (c + 1) q).1) q ≤ 1000000 := fun q => tgc_le ..
  have hG' : ∀ q, q < (chl S (c + 1)).length → I 112 (128 * (c + 1) + q) = iI (((fun q => (tgc S (c + 1) q).1) q : Nat) : Int) := hG
  generalize (fun q => (tgc S (c + 1) q).1) = g at hq hl6 hG' hgq ⊢
  have hvv : VV ((chl S c).getD p (0, 0, 0)) := RepE_in hE hp1
  generalize hV : (chl S c).getD p (0, 0, 0) = v at *
  obtain ⟨f1, f2, f3⟩ := fm_first (its S c v g) (chl S (c + 1)).length
  rw [← wgh_fm] at f1 f2 f3
  change (wgh S c v g).1 ≤ 1000000 at f1
  obtain ⟨g1, g2, g3⟩ := f2 r hq
  change its S c v g r = (wgh S c v g).1 at g2
  change ∀ j, j < r → its S c v g j ≠ (wgh S c v g).1 at g3
  generalize hm : (wgh S c v g).1 = m at *
  have f4 : ((c + 1 : Nat) : Int).toNat = c + 1 := by omega
  have turn : ∀ (A : Nat → Nat → Int32) (k : Nat), k < (chl S (c + 1)).length → OthF I A → ∃ B, OthF I B ∧ ∀ (Q : Option Value → fb_H → Prop) (x5 : Value), x5.category = 1 → ev_w 147 3 [.ref 102, .int (iI ((c + 1 : Nat) : Int)), .int (iI (p : Int)), .int (iI (m : Int)), .int (iI (k : Int)), x5] [] (hp L σ A) Q = if its S c v g k = m then Q (some (.int (iI (k : Int)))) (hp L σ B) else ev_w 147 3 [.ref 102, .int (iI ((c + 1 : Nat) : Int)), .int (iI (p : Int)), .int (iI (m : Int)), .int (iI ((k + 1 : Nat) : Int)), .int (iI ((jnc S c v ((chl S (c + 1)).getD k (0, 0, 0)) : Nat) : Int))] [] (hp L σ B) Q := fun A k hk hA => by
    have hrA : RepS A 103 0 S := RepS_o hr fun q => hA _ _ (by omega) (by omega)
    have hEA : RepE A c (chl S c) := RepE_o hE fun q _ _ => hA _ _ (by omega) (by omega)
    have hLA : RepL A (c + 1) (chl S (c + 1)) := RepL_o hL (hA _ _ (by omega) (by omega)) fun q _ _ => hA _ _ (by omega) (by omega)
    have hn1 := hLA.1
    obtain ⟨B, b1, b2⟩ := c141 (L := L) (σ := σ) hrA hVS hc hEA hLA.2 hp1 hk
    rw [hV] at b1
    have hd := dst_lt hvv (RepL_in hL hk)
    have hgk := hgq k
    have hj : jnc S c v ((chl S (c + 1)).getD k (0, 0, 0)) ≤ 1000000 := by unfold jnc; split <;> omega
    have hOB : OthF I B := fun i q a b => (b2 i q a b).trans (hA i q a b)
    have ht : B 112 (128 * (c + 1) + k) = iI (g k : Int) := (hOB _ _ (by omega) (by omega)).trans (hG' k hk)
    have f5 : (128 * ((c + 1 : Nat) : Int) + (k : Int)).toNat = 128 * (c + 1) + k := by omega
    unfold its
    generalize jnc S c v ((chl S (c + 1)).getD k (0, 0, 0)) = jj at *
    refine ⟨B, hOB, fun Q x5 hx5 => ?_⟩
    rw [u147_3]
    by_cases q1 : jj < 1000000
    · by_cases q2 : g k < 1000000
      · rw [if_pos q2]
        by_cases q3 : jj + g k = m
        · rw [if_pos q3]
          simp (disch := first | exact hx5 | exact cat_i _ | exact cat_r _ | omega) only [u147_5, u147_6, u147_9, u147_10, u147_11, u147_14, u147_15, u147_18, u147_19, u147_22, u147_23, u147_24, u147_25, u147_27, u147_30, u147_32, u147_34, u147_36, u147_39, u147_40, u147_43, u147_46, u147_47, u147_48, u147_50, u147_51, u147_52, u147_54, u147_57, u147_59, u147_60, u147_63, u147_66, u147_67, u147_68, u147_70, u147_71, u147_72, u147_73, u147_74, u147_77, u147_79, u147_80, u147_83, hT_102, hT_111, hT_112, hR_102_10, hR_102_11, f4, f5, hn1, ht, b1, if_pos, if_neg, ↓reduceIte, false_and, and_false, false_or, or_false, ite_not, decide_true, decide_false, Bool.true_eq_false, Bool.false_eq_true, decide_eq_true_eq, decide_eq_false_iff_not, hp_I, hp_sI, hp_N, ev_k_s, ev_k_n, true_and, and_true, true_or, or_true, not_true_eq_false, not_false_eq_true, if_true, if_false, ite_self, Option.some.injEq, exists_eq_left', nb_0, nb_1, nb_z, zI_t, zI_f, zI_e, cat_i, cat_r, cat_n, iI_add, iI_sub, iI_mul, iI_neg, iI_lt, iI_le, iI_eq, iI_idx, iI_inT, iI_ne0, ite_false, ite_true, iN_0, iN_1, Int.reduceAdd, Int.reduceSub, Int.reduceMul, Int.reduceNeg, Int.reduceDiv, Int.reduceMod, Int.reduceEq, Int.reduceLT, Int.reduceLE, Int.reduceToNat, Nat.reduceAdd, Nat.reduceSub, Nat.reduceMul, Nat.reduceLT, Nat.reduceLeDiff, Nat.reduceEqDiff, Int.cast_ofNat_Int, Std.le_refl, and_self, Int.toNat_natCast, Int.toNat_zero, Nat.le_refl]
        · rw [if_neg q3]
          simp (disch := first | exact hx5 | exact cat_i _ | exact cat_r _ | omega) only [u147_5, u147_6, u147_9, u147_10, u147_11, u147_14, u147_15, u147_18, u147_19, u147_22, u147_23, u147_24, u147_25, u147_27, u147_30, u147_32, u147_34, u147_36, u147_39, u147_40, u147_43, u147_46, u147_47, u147_48, u147_50, u147_51, u147_52, u147_54, u147_57, u147_59, u147_60, u147_63, u147_66, u147_67, u147_68, u147_70, u147_71, u147_72, u147_73, u147_74, u147_77, u147_79, u147_80, u147_83, hT_102, hT_111, hT_112, hR_102_10, hR_102_11, f4, f5, hn1, ht, b1, if_pos, if_neg, ↓reduceIte, false_and, and_false, false_or, or_false, ite_not, decide_true, decide_false, Bool.true_eq_false, Bool.false_eq_true, decide_eq_true_eq, decide_eq_false_iff_not, hp_I, hp_sI, hp_N, ev_k_s, ev_k_n, true_and, and_true, true_or, or_true, not_true_eq_false, not_false_eq_true, if_true, if_false, ite_self, Option.some.injEq, exists_eq_left', nb_0, nb_1, nb_z, zI_t, zI_f, zI_e, cat_i, cat_r, cat_n, iI_add, iI_sub, iI_mul, iI_neg, iI_lt, iI_le, iI_eq, iI_idx, iI_inT, iI_ne0, ite_false, ite_true, iN_0, iN_1, Int.reduceAdd, Int.reduceSub, Int.reduceMul, Int.reduceNeg, Int.reduceDiv, Int.reduceMod, Int.reduceEq, Int.reduceLT, Int.reduceLE, Int.reduceToNat, Nat.reduceAdd, Nat.reduceSub, Nat.reduceMul, Nat.reduceLT, Nat.reduceLeDiff, Nat.reduceEqDiff, Int.cast_ofNat_Int, Std.le_refl, and_self, Int.toNat_natCast, Int.toNat_zero, Nat.le_refl]
          all_goals rfl
      · rw [if_neg q2, if_neg (by omega)]
        simp (disch := first | exact hx5 | exact cat_i _ | exact cat_r _ | omega) only [u147_5, u147_6, u147_9, u147_10, u147_11, u147_14, u147_15, u147_18, u147_19, u147_22, u147_23, u147_24, u147_25, u147_27, u147_30, u147_32, u147_34, u147_36, u147_39, u147_40, u147_43, u147_46, u147_47, u147_48, u147_50, u147_51, u147_52, u147_54, u147_57, u147_59, u147_60, u147_63, u147_66, u147_67, u147_68, u147_70, u147_71, u147_72, u147_73, u147_74, u147_77, u147_79, u147_80, u147_83, hT_102, hT_111, hT_112, hR_102_10, hR_102_11, f4, f5, hn1, ht, b1, if_pos, if_neg, ↓reduceIte, false_and, and_false, false_or, or_false, ite_not, decide_true, decide_false, Bool.true_eq_false, Bool.false_eq_true, decide_eq_true_eq, decide_eq_false_iff_not, hp_I, hp_sI, hp_N, ev_k_s, ev_k_n, true_and, and_true, true_or, or_true, not_true_eq_false, not_false_eq_true, if_true, if_false, ite_self, Option.some.injEq, exists_eq_left', nb_0, nb_1, nb_z, zI_t, zI_f, zI_e, cat_i, cat_r, cat_n, iI_add, iI_sub, iI_mul, iI_neg, iI_lt, iI_le, iI_eq, iI_idx, iI_inT, iI_ne0, ite_false, ite_true, iN_0, iN_1, Int.reduceAdd, Int.reduceSub, Int.reduceMul, Int.reduceNeg, Int.reduceDiv, Int.reduceMod, Int.reduceEq, Int.reduceLT, Int.reduceLE, Int.reduceToNat, Nat.reduceAdd, Nat.reduceSub, Nat.reduceMul, Nat.reduceLT, Nat.reduceLeDiff, Nat.reduceEqDiff, Int.cast_ofNat_Int, Std.le_refl, and_self, Int.toNat_natCast, Int.toNat_zero, Nat.le_refl]
        all_goals rfl
    · rw [if_neg (by split <;> omega)]
      simp (disch := first | exact hx5 | exact cat_i _ | exact cat_r _ | omega) only [u147_5, u147_6, u147_9, u147_10, u147_11, u147_14, u147_15, u147_18, u147_19, u147_22, u147_23, u147_24, u147_25, u147_27, u147_30, u147_32, u147_34, u147_36, u147_39, u147_40, u147_43, u147_46, u147_47, u147_48, u147_50, u147_51, u147_52, u147_54, u147_57, u147_59, u147_60, u147_63, u147_66, u147_67, u147_68, u147_70, u147_71, u147_72, u147_73, u147_74, u147_77, u147_79, u147_80, u147_83, hT_102, hT_111, hT_112, hR_102_10, hR_102_11, f4, f5, hn1, b1, if_pos, if_neg, ↓reduceIte, false_and, and_false, false_or, or_false, ite_not, decide_true, decide_false, Bool.true_eq_false, Bool.false_eq_true, decide_eq_true_eq, decide_eq_false_iff_not, hp_I, hp_sI, hp_N, ev_k_s, ev_k_n, true_and, and_true, true_or, or_true, not_true_eq_false, not_false_eq_true, if_true, if_false, ite_self, Option.some.injEq, exists_eq_left', nb_0, nb_1, nb_z, zI_t, zI_f, zI_e, cat_i, cat_r, cat_n, iI_add, iI_sub, iI_mul, iI_neg, iI_lt, iI_le, iI_eq, iI_idx, iI_inT, iI_ne0, ite_false, ite_true, iN_0, iN_1, Int.reduceAdd, Int.reduceSub, Int.reduceMul, Int.reduceNeg, Int.reduceDiv, Int.reduceMod, Int.reduceEq, Int.reduceLT, Int.reduceLE, Int.reduceToNat, Nat.reduceAdd, Nat.reduceSub, Nat.reduceMul, Nat.reduceLT, Nat.reduceLeDiff, Nat.reduceEqDiff, Int.cast_ofNat_Int, Std.le_refl, and_self, Int.toNat_natCast, Int.toNat_zero, Nat.le_refl]
      all_goals rfl
  obtain ⟨⟨J, x5⟩, ⟨p1, p2⟩, e⟩ := lx (fun Q (a : (Nat → Nat → Int32) × Value) (k : Nat) => ev_w 147 3 [.ref 102, .int (iI ((c + 1 : Nat) : Int)), .int (iI (p : Int)), .int (iI (m : Int)), .int (iI (k : Int)), a.2] [] (hp L σ a.1) Q) (fun a k => a.2.category = 1 ∧ OthF I a.1) r (fun a k hk hp' => by
    obtain ⟨A, x5⟩ := a
    obtain ⟨p1, p2⟩ := hp'
    obtain ⟨B, b1, b2⟩ := turn A k (by omega) p2
    refine ⟨(B, .int (iI ((jnc S c v ((chl S (c + 1)).getD k (0, 0, 0)) : Nat) : Int))), ⟨cat_i _, b1⟩, fun Q => Eq.trans (b2 Q x5 p1) ?_⟩
    rw [if_neg (g3 k hk)]) r 0 (I, .null) (by omega) ⟨rfl, fun _ _ _ _ => rfl⟩
  dsimp only at p1 p2
  obtain ⟨B, b1, b2⟩ := turn J r g1 p2
  refine ⟨B, fun Q => ?_, b1⟩
  have e0 := e Q
  have e1 := b2 Q x5 p1
  rw [if_pos g2] at e1
  clear e b2 turn
  simp (disch := first | exact cat_i _ | exact cat_r _ | exact cat_n | omega) only [u147_0, u147_1, e147, if_pos, if_neg, ↓reduceIte, false_and, and_false, false_or, or_false, ite_not, decide_true, decide_false, Bool.true_eq_false, Bool.false_eq_true, decide_eq_true_eq, decide_eq_false_iff_not, hp_I, hp_sI, hp_N, ev_k_s, ev_k_n, true_and, and_true, true_or, or_true, not_true_eq_false, not_false_eq_true, if_true, if_false, ite_self, Option.some.injEq, exists_eq_left', nb_0, nb_1, nb_z, zI_t, zI_f, zI_e, cat_i, cat_r, cat_n, iI_add, iI_sub, iI_mul, iI_neg, iI_lt, iI_le, iI_eq, iI_idx, iI_inT, iI_ne0, ite_false, ite_true, iN_0, iN_1, Int.reduceAdd, Int.reduceSub, Int.reduceMul, Int.reduceNeg, Int.reduceDiv, Int.reduceMod, Int.reduceEq, Int.reduceLT, Int.reduceLE, Int.reduceToNat, Nat.reduceAdd, Nat.reduceSub, Nat.reduceMul, Nat.reduceLT, Nat.reduceLeDiff, Nat.reduceEqDiff, Int.cast_ofNat_Int, Std.le_refl, and_self, Int.toNat_natCast, Int.toNat_zero, Nat.le_refl]
  exact e0.trans e1
/-- gives -/
theorem c146 {l : List (Nat × Nat × Nat)} (hr : RepS I 103 0 S) (hl : S.2.length ≤ 10) (hn : n < S.2.length) (hE : RepE I n l) (hrk : r < l.length) : ∃ K, (∀ Q : Option Value → fb_H → Prop, ev_c 146 [.ref 102, .int (iI (n : Int)), .int (iI (r : Int))] (hp L σ I) Q = Q none (hp L σ K)) ∧ RepS K 103 0 (gv S n (some (l.getD r (0, 0, 0)))) ∧ ∀ i q, i ≠ 103 → K i q = I i q := by
  have h20 := hE.1
  have e1 : (128 * (n : Int) + (r : Int)).toNat = 128 * n + r := by omega
  have e2 := hE.2.2 r hrk
  have hvv := RepE_in hE hrk
  generalize l.getD r (0, 0, 0) = v at *
  obtain ⟨g1, g2, g3, g4, g5⟩ := enc_in hvv
  have f1 : (1 + 6 * (n : Int) + 2).toNat = 1 + 6 * n + 2 := by omega
  have f2 : (1 + 6 * (n : Int) + 3).toNat = 1 + 6 * n + 3 := by omega
  have f3 : (1 + 6 * (n : Int) + 3 + 1).toNat = 1 + 6 * n + 4 := by omega
  have f4 : (1 + 6 * (n : Int) + 3 + 2).toNat = 1 + 6 * n + 5 := by omega
  obtain ⟨c0, c1, c2, c3⟩ := RepS_CC hr hn
  refine ⟨fb_u2 (fb_u2 (fb_u2 (fb_u2 I 103 (1 + 6 * n + 2) (iI 1)) 103 (1 + 6 * n + 3) (iI (v.1 : Int))) 103 (1 + 6 * n + 4) (iI (v.2.1 : Int))) 103 (1 + 6 * n + 5) (iI (v.2.2 : Int)), fun Q => ?_, RepS_gv hr hl hn (fun q a => ?_) ⟨?_, ?_, ?_, fun u e => ?_⟩, fun i q a => ?_⟩
  · simp (disch := first | exact cat_i _ | exact cat_r _ | exact cat_n | omega) only [e146, u146_0, u146_1, u146_4, u146_7, u146_8, u146_9, u146_10, u146_11, u146_12, u146_13, u146_14, u146_16, u146_17, u146_18, u146_19, u146_21, u146_22, u146_25, u146_27, u146_28, u146_29, u146_30, u146_31, u146_32, u146_35, u146_37, u146_38, u146_39, u146_40, u146_43, u146_44, u146_45, u146_46, u146_49, u146_51, u146_52, u146_53, u146_54, u146_55, u146_56, u146_58, u146_59, u146_61, u146_62, u146_63, u146_64, u146_67, u146_69, u146_70, u146_71, u146_72, u146_73, u146_74, u146_76, u146_77, u146_78, hT_102, hT_103, hT_110, hR_102_0, hR_102_9, e1, e2, iI_div, iI_rem, g3, g4, g5, f1, f2, f3, f4, if_pos, if_neg, ↓reduceIte, false_and, and_false, false_or, or_false, ite_not, decide_true, decide_false, Bool.true_eq_false, Bool.false_eq_true, decide_eq_true_eq, decide_eq_false_iff_not, hp_I, hp_sI, hp_N, ev_k_s, ev_k_n, true_and, and_true, true_or, or_true, not_true_eq_false, not_false_eq_true, if_true, if_false, ite_self, Option.some.injEq, exists_eq_left', nb_0, nb_1, nb_z, zI_t, zI_f, zI_e, cat_i, cat_r, cat_n, iI_add, iI_sub, iI_mul, iI_neg, iI_lt, iI_le, iI_eq, iI_idx, iI_inT, iI_ne0, ite_false, ite_true, iN_0, iN_1, Int.reduceAdd, Int.reduceSub, Int.reduceMul, Int.reduceNeg, Int.reduceDiv, Int.reduceMod, Int.reduceEq, Int.reduceLT, Int.reduceLE, Int.reduceToNat, Nat.reduceAdd, Nat.reduceSub, Nat.reduceMul, Nat.reduceLT, Nat.reduceLeDiff, Nat.reduceEqDiff, Int.cast_ofNat_Int, Std.le_refl, and_self, Int.toNat_natCast, Int.toNat_zero, Nat.le_refl]
  · rw [u2_ne (by omega), u2_ne (by omega), u2_ne (by omega), u2_ne (by omega)]
  · rw [u2_ne (by omega), u2_ne (by omega), u2_ne (by omega), u2_ne (by omega)]; exact c0
  · rw [u2_ne (by omega), u2_ne (by omega), u2_ne (by omega), u2_ne (by omega)]; exact c1
  · rw [u2_ne (by omega), u2_ne (by omega), u2_ne (by omega), u2_eq]; rfl
  · cases e
    refine ⟨?_, ?_, u2_eq⟩
    · rw [u2_ne (by omega), u2_ne (by omega), u2_eq]
    · rw [u2_ne (by omega), u2_eq]
  · rw [u2_ne (by omega), u2_ne (by omega), u2_ne (by omega), u2_ne (by omega)]
end MG
