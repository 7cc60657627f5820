def nst (S : Co) (n : Nat) (p : Nat × Nat × Nat) (acc : Option (Nat × Nat × Nat) × Nat) (v : Nat × Nat × Nat) : Option (Nat × Nat × Nat) × Nat := if dst p v < acc.2 ∧ bhd S.1.1 S.1.2.2 (ch S (n - 1)).1 p (ch S n).1 v (tn S n) = 0 then (some v, dst p v) else acc
def near (S : Co) (n : Nat) (p : Nat × Nat × Nat) (l : List (Nat × Nat × Nat)) : Option (Nat × Nat × Nat) × Nat := (List.range l.length).foldl (fun acc k => nst S n p acc (l.getD k (0, 0, 0))) (none, 1000000)
def pkB : Option (Nat × Nat × Nat) → Int
  | none => -6
  | some v => (pkv v : Int)
theorem fold_1 {α β : Type} (f : α → Nat → α) (g : Nat → β) : ∀ (l : List Nat) (a : α) (x : β), (l.foldl (fun (a : α × β) r => (f a.1 r, g r)) (a, x)).1 = l.foldl f a
  | [], _, _ => rfl
  | r :: l, a, x => fold_1 f g l (f a r) (g r)
section NE
variable {Q : Option Value → fb_H → Prop} {n : Nat} {L t y : Nat} {σ : Nat → Nat} {I : Nat → Nat → Int32} {S : Co} {l : List (Nat × Nat × Nat)} {p : Nat × Nat × Nat}
theorem c77 (ht : isp t) (hy : isv y) (hr : RepP I t S) (hv : VS S) (hs : StI I) (hn : n < S.2.length) (hpr : pre S n = some p) (hl : RepV I y l) : ev_c 77 [.ref y, .ref t, .int (iI (n : Int)), .int (iI ((pkv p : Nat) : Int))] (hp L σ I) Q = Q (some (.int (iI (pkB (near S n p l).1)))) (hp L σ I) := by
  have hl10 := hv.2.2.2.1
  have hl20 := hl.2.1
  have hb := hv.2.2.2.2 n hn
  have hb2 := hb.2.1
  have htn : tn S n < 4096 := tns_lt _ _ _
  obtain ⟨k, e, hk, hk2, hk3, hk4⟩ := pre_i hv (Nat.le_of_lt hn) hpr
  have hbk : (ch S (n - 1)).1 = (ch S k).1 := by rw [show n - 1 = k by omega]
  have c33' := fun Q => c33 (Q := Q) (L := L) (σ := σ) ht hr hv hk hk3
  have en : (n : Int) - 1 = (k : Int) := by omega
  have lp := (lf0 (fun (a : (Option (Nat × Nat × Nat) × Nat) × Value) (r : Nat) => ev_w 77 28 [.ref y, .ref t, .int (iI (n : Int)), .int (iI ((pkv p : Nat) : Int)), .int (iI ((pk4 (ch S k).1 p : Nat) : Int)), .int (iI ((tn S n : Nat) : Int)), .int (iI (pkB a.1.1)), .int (iI (a.1.2 : Int)), .int (iI (r : Int)), a.2] [] (hp L σ I) Q) (fun a r => (nst S n p a.1 (l.getD r (0, 0, 0)), .int (iI ((dst p (l.getD r (0, 0, 0)) : Nat) : Int)))) (fun a _ => a.1.2 ≤ 1000000 ∧ a.2.category = 1) l.length (fun a r hrr ha => by
    obtain ⟨⟨b, m⟩, x⟩ := a
    obtain ⟨ha1, ha2⟩ := ha
    dsimp only at ha1 ha2
    have hvv := RepV_in hl hrr
    have hd := dst_lt hk3 hvv
    have hbb := bhd_in S.1.1 S.1.2.2 (ch S k).1 p (ch S n).1 (l.getD r (0, 0, 0)) (tn S n)
    obtain ⟨z, hz, hz2⟩ := hbb
    refine ⟨⟨?_, cat_i _⟩, ?_⟩
    · unfold nst
      split
      · dsimp only; omega
      · exact ha1
    · show ev_w 77 28 [.ref y, .ref t, .int (iI (n : Int)), .int (iI ((pkv p : Nat) : Int)), .int (iI ((pk4 (ch S k).1 p : Nat) : Int)), .int (iI ((tn S n : Nat) : Int)), .int (iI (pkB b)), .int (iI (m : Int)), .int (iI (r : Int)), x] [] (hp L σ I) Q = _
      rw [u77_28]
      unfold nst
      rw [hbk]
      by_cases q1 : dst p (l.getD r (0, 0, 0)) < m
      · by_cases q2 : bhd S.1.1 S.1.2.2 (ch S k).1 p (ch S n).1 (l.getD r (0, 0, 0)) (tn S n) = 0
        · rw [if_pos ⟨q1, q2⟩]
          simp (disch := first | exact ha2 | exact cat_i _ | omega) only [u77_30, u77_31, u77_34, u77_37, u77_38, u77_39, u77_42, u77_44, u77_45, u77_48, u77_50, u77_52, u77_54, u77_57, u77_58, u77_60, u77_61, u77_62, u77_63, u77_66, u77_68, u77_69, u77_72, u77_74, u77_77, u77_80, u77_81, u77_84, u77_86, u77_87, u77_89, u77_91, u77_93, u77_96, hT_p ht, hT_v hy, hT_v1 hy, hR_v0 hy, hl.1, hl.2.2.2 r hrr, c111 hk3 hvv, c33 ht hr hv hn hvv, c57 ht hr hv hs hk4 hk3 (show (ch S n).1 ≤ 99 by omega) hvv htn, q2, if_pos, if_neg, ↓reduceIte, false_and, and_false, false_or, or_false, ite_not, decide_true, decide_false, Bool.true_eq_false, Bool.false_eq_true, decide_eq_true_eq, decide_eq_false_iff_not, hp_I, hp_sI, hp_N, ev_k_s, ev_k_n, true_and, and_true, true_or, or_true, not_true_eq_false, not_false_eq_true, if_true, if_false, ite_self, Option.some.injEq, exists_eq_left', nb_0, nb_1, nb_z, zI_t, zI_f, zI_e, cat_i, cat_r, cat_n, iI_add, iI_sub, iI_mul, iI_neg, iI_lt, iI_le, iI_eq, iI_idx, iI_inT, iI_ne0, ite_false, ite_true, iN_0, iN_1, Int.reduceAdd, Int.reduceSub, Int.reduceMul, Int.reduceNeg, Int.reduceDiv, Int.reduceMod, Int.reduceEq, Int.reduceLT, Int.reduceLE, Int.reduceToNat, Nat.reduceAdd, Nat.reduceSub, Nat.reduceMul, Nat.reduceLT, Nat.reduceLeDiff, Nat.reduceEqDiff, Int.cast_ofNat_Int, Std.le_refl, and_self, Int.toNat_natCast, Int.toNat_zero, Nat.le_refl]
          rfl
        · rw [if_neg (fun w => q2 w.2)]
          simp (disch := first | exact ha2 | exact cat_i _ | omega) only [u77_30, u77_31, u77_34, u77_37, u77_38, u77_39, u77_42, u77_44, u77_45, u77_48, u77_50, u77_52, u77_54, u77_57, u77_58, u77_60, u77_61, u77_62, u77_63, u77_66, u77_68, u77_69, u77_72, u77_74, u77_77, u77_80, u77_81, u77_84, u77_86, u77_87, u77_89, u77_91, u77_93, u77_96, hT_p ht, hT_v hy, hT_v1 hy, hR_v0 hy, hl.1, hl.2.2.2 r hrr, c111 hk3 hvv, c33 ht hr hv hn hvv, c57 ht hr hv hs hk4 hk3 (show (ch S n).1 ≤ 99 by omega) hvv htn, if_pos, if_neg, ↓reduceIte, false_and, and_false, false_or, or_false, ite_not, decide_true, decide_false, Bool.true_eq_false, Bool.false_eq_true, decide_eq_true_eq, decide_eq_false_iff_not, hp_I, hp_sI, hp_N, ev_k_s, ev_k_n, true_and, and_true, true_or, or_true, not_true_eq_false, not_false_eq_true, if_true, if_false, ite_self, Option.some.injEq, exists_eq_left', nb_0, nb_1, nb_z, zI_t, zI_f, zI_e, cat_i, cat_r, cat_n, iI_add, iI_sub, iI_mul, iI_neg, iI_lt, iI_le, iI_eq, iI_idx, iI_inT, iI_ne0, ite_false, ite_true, iN_0, iN_1, Int.reduceAdd, Int.reduceSub, Int.reduceMul, Int.reduceNeg, Int.reduceDiv, Int.reduceMod, Int.reduceEq, Int.reduceLT, Int.reduceLE, Int.reduceToNat, Nat.reduceAdd, Nat.reduceSub, Nat.reduceMul, Nat.reduceLT, Nat.reduceLeDiff, Nat.reduceEqDiff, Int.cast_ofNat_Int, Std.le_refl, and_self, Int.toNat_natCast, Int.toNat_zero, Nat.le_refl]
          rfl
      · rw [if_neg (fun w => q1 w.1)]
        simp (disch := first | exact ha2 | exact cat_i _ | omega) only [u77_30, u77_31, u77_34, u77_37, u77_38, u77_39, u77_42, u77_44, u77_45, u77_48, u77_50, u77_52, u77_54, u77_57, u77_58, u77_60, u77_61, u77_62, u77_63, u77_66, u77_68, u77_69, u77_72, u77_74, u77_77, u77_80, u77_81, u77_84, u77_86, u77_87, u77_89, u77_91, u77_93, u77_96, hT_p ht, hT_v hy, hT_v1 hy, hR_v0 hy, hl.1, hl.2.2.2 r hrr, c111 hk3 hvv, if_pos, if_neg, ↓reduceIte, false_and, and_false, false_or, or_false, ite_not, decide_true, decide_false, Bool.true_eq_false, Bool.false_eq_true, decide_eq_true_eq, decide_eq_false_iff_not, hp_I, hp_sI, hp_N, ev_k_s, ev_k_n, true_and, and_true, true_or, or_true, not_true_eq_false, not_false_eq_true, if_true, if_false, ite_self, Option.some.injEq, exists_eq_left', nb_0, nb_1, nb_z, zI_t, zI_f, zI_e, cat_i, cat_r, cat_n, iI_add, iI_sub, iI_mul, iI_neg, iI_lt, iI_le, iI_eq, iI_idx, iI_inT, iI_ne0, ite_false, ite_true, iN_0, iN_1, Int.reduceAdd, Int.reduceSub, Int.reduceMul, Int.reduceNeg, Int.reduceDiv, Int.reduceMod, Int.reduceEq, Int.reduceLT, Int.reduceLE, Int.reduceToNat, Nat.reduceAdd, Nat.reduceSub, Nat.reduceMul, Nat.reduceLT, Nat.reduceLeDiff, Nat.reduceEqDiff, Int.cast_ofNat_Int, Std.le_refl, and_self, Int.toNat_natCast, Int.toNat_zero, Nat.le_refl]
        rfl) ((none, 1000000), .null) ⟨Nat.le_refl _, rfl⟩).1
  simp (disch := first | exact cat_i _ | exact cat_r _ | exact cat_n | omega) only [u77_0, u77_1, u77_2, u77_3, u77_4, u77_5, u77_8, u77_10, u77_11, u77_12, u77_15, u77_17, u77_19, u77_21, u77_23, u77_25, u77_26, e77, hT_p ht, en, c33', c37 ht hr hv hs hn, if_pos, if_neg, ↓reduceIte, false_and, and_false, false_or, or_false, ite_not, decide_true, decide_false, Bool.true_eq_false, Bool.false_eq_true, decide_eq_true_eq, decide_eq_false_iff_not, hp_I, hp_sI, hp_N, ev_k_s, ev_k_n, true_and, and_true, true_or, or_true, not_true_eq_false, not_false_eq_true, if_true, if_false, ite_self, Option.some.injEq, exists_eq_left', nb_0, nb_1, nb_z, zI_t, zI_f, zI_e, cat_i, cat_r, cat_n, iI_add, iI_sub, iI_mul, iI_neg, iI_lt, iI_le, iI_eq, iI_idx, iI_inT, iI_ne0, ite_false, ite_true, iN_0, iN_1, Int.reduceAdd, Int.reduceSub, Int.reduceMul, Int.reduceNeg, Int.reduceDiv, Int.reduceMod, Int.reduceEq, Int.reduceLT, Int.reduceLE, Int.reduceToNat, Nat.reduceAdd, Nat.reduceSub, Nat.reduceMul, Nat.reduceLT, Nat.reduceLeDiff, Nat.reduceEqDiff, Int.cast_ofNat_Int, Std.le_refl, and_self, Int.toNat_natCast, Int.toNat_zero, Nat.le_refl]
  refine Eq.trans lp ?_
  simp (disch := first | exact cat_i _ | exact cat_r _ | exact cat_n | omega) only [u77_28, u77_30, u77_31, u77_34, u77_99, u77_101, hT_v hy, hl.1, if_pos, if_neg, ↓reduceIte, false_and, and_false, false_or, or_false, ite_not, decide_true, decide_false, Bool.true_eq_false, Bool.false_eq_true, decide_eq_true_eq, decide_eq_false_iff_not, hp_I, hp_sI, hp_N, ev_k_s, ev_k_n, true_and, and_true, true_or, or_true, not_true_eq_false, not_false_eq_true, if_true, if_false, ite_self, Option.some.injEq, exists_eq_left', nb_0, nb_1, nb_z, zI_t, zI_f, zI_e, cat_i, cat_r, cat_n, iI_add, iI_sub, iI_mul, iI_neg, iI_lt, iI_le, iI_eq, iI_idx, iI_inT, iI_ne0, ite_false, ite_true, iN_0, iN_1, Int.reduceAdd, Int.reduceSub, Int.reduceMul, Int.reduceNeg, Int.reduceDiv, Int.reduceMod, Int.reduceEq, Int.reduceLT, Int.reduceLE, Int.reduceToNat, Nat.reduceAdd, Nat.reduceSub, Nat.reduceMul, Nat.reduceLT, Nat.reduceLeDiff, Nat.reduceEqDiff, Int.cast_ofNat_Int, Std.le_refl, and_self, Int.toNat_natCast, Int.toNat_zero, Nat.le_refl]
  unfold near
  rw [fold_1 (fun acc r => nst S n p acc (l.getD r (0, 0, 0))) (fun r => Value.int (iI ((dst p (l.getD r (0, 0, 0)) : Nat) : Int)))]
end NE
