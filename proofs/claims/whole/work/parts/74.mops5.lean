section MX
variable {L : Nat} {σ : Nat → Nat} {I J K : Nat → Nat → Int32} {Q : Option Value → fb_H → Prop} {h : fb_H} {x y r iv w z : Int} {S : Co} {n m a o a' o' b b' f c : Nat} {v : Nat × Nat × Nat} {A : AS} {H : List Co} {T : List Nat}
/-- nearest -/
def nsI (S : Co) (n : Nat) (p : Nat × Nat × Nat) (l : List (Nat × Nat × Nat)) (b : Option Nat) (k : Nat) : Option Nat := if dst p (l.getD k (0, 0, 0)) < ((List.range k).foldl (fun acc k => nst S n p acc (l.getD k (0, 0, 0))) (none, 1000000)).2 ∧ bhd S.1.1 S.1.2.2 (ch S (n - 1)).1 p (ch S n).1 (l.getD k (0, 0, 0)) (tn S n) = 0 then some k else b
def bI : Option Nat → Int
  | none => -6
  | some r => (r : Int)
theorem m165 (hM : RepM I A) (hA : AV A) (hx1 : -2147483648 ≤ x) (hx2 : x < 2147483648) (hw1 : -2147483648 ≤ w) (hw2 : w < 2147483648) : MR L σ I 165 [.ref 102, .int (iI x), .int (iI w)] (opNear A x w, A) := by
  have hl := hA.1.2.2.2.1
  have e116 := fun Q => c116 (L := L) (σ := σ) (Q := Q) hM.1 hl hx1 hx2
  unfold opNear
  by_cases hh : 0 ≤ x ∧ x < A.1.2.length
  · rw [if_neg (fun k => k hh)]
    obtain ⟨n, rfl⟩ := Int.eq_ofNat_of_zero_le hh.1
    have hn : n < A.1.2.length := by omega
    simp only [Int.toNat_natCast]
    have e118p := fun Q => c118p (L := L) (σ := σ) (Q := Q) hM.1 hl (Nat.le_of_lt hn)
    by_cases f : 0 ≤ w ∧ w ≤ 3
    · rw [if_neg (fun k => k f)]
      cases hpr : pre A.1 n with
      | none =>
        rw [hpr, Option.isSome_none] at e118p
        refine MR_id hM fun Q => ?_
        simp (disch := first | exact cat_i _ | exact cat_r _ | exact cat_n | omega) only [u165_0, u165_1, u165_2, u165_5, u165_8, u165_9, u165_10, u165_11, u165_12, u165_13, u165_16, u165_19, u165_21, u165_22, u165_23, u165_24, u165_25, u165_26, u165_29, u165_32, u165_34, e165, hT_102, e116, zI_dt hh, c113, zI_dt f, e118p, if_pos, if_neg, ↓reduceIte, false_and, and_false, false_or, or_false, ite_not, decide_true, decide_false, Bool.true_eq_false, Bool.false_eq_true, decide_eq_true_eq, decide_eq_false_iff_not, hp_I, hp_sI, hp_N, ev_k_s, ev_k_n, true_and, and_true, true_or, or_true, not_true_eq_false, not_false_eq_true, if_true, if_false, ite_self, Option.some.injEq, exists_eq_left', nb_0, nb_1, nb_z, zI_t, zI_f, zI_e, cat_i, cat_r, cat_n, iI_add, iI_sub, iI_mul, iI_neg, iI_lt, iI_le, iI_eq, iI_idx, iI_inT, iI_ne0, ite_false, ite_true, iN_0, iN_1, Int.reduceAdd, Int.reduceSub, Int.reduceMul, Int.reduceNeg, Int.reduceDiv, Int.reduceMod, Int.reduceEq, Int.reduceLT, Int.reduceLE, Int.reduceToNat, Nat.reduceAdd, Nat.reduceSub, Nat.reduceMul, Nat.reduceLT, Nat.reduceLeDiff, Nat.reduceEqDiff, Int.cast_ofNat_Int, Std.le_refl, and_self, Int.toNat_natCast, Int.toNat_zero, Nat.le_refl]
      | some p =>
        rw [hpr, Option.isSome_some] at e118p
        dsimp only
        obtain ⟨j, ej, hj, hj2, hj3, hj4⟩ := pre_i hA.1 (Nat.le_of_lt hn) hpr
        have hb4 : (ch A.1 (n - 1)).1 ≤ 99 := by rw [show n - 1 = j by omega]; exact hj4
        obtain ⟨G, g1, g2, g3⟩ := c138 (L := L) (σ := σ) hM.1 hA.1 hn
        have hrG : RepS G 103 0 A.1 := RepS_o hM.1 fun q => g3 _ _ (by omega) (by omega) (by omega) (by omega)
        have e132 := fun Q => c132p (L := L) (σ := σ) (Q := Q) hrG hl hn hpr
        have h20 := g2.2.1
        obtain ⟨⟨J, acc, b, x5⟩, ⟨p1, p2, p3, p4, p5⟩, e⟩ := lx (fun Q (a : (Nat → Nat → Int32) × (Option (Nat × Nat × Nat) × Nat) × Option Nat × Value) (k : Nat) => ev_w 165 55 [.ref 102, .int (iI (n : Int)), .int (iI w), .int (iI (bI a.2.2.1)), .int (iI (a.2.1.2 : Int)), .int (iI (k : Int))] [] (hp L σ a.1) Q) (fun a k => a.2.1 = (List.range k).foldl (fun acc k => nst A.1 n p acc ((wys A.1 n).getD k (0, 0, 0))) (none, 1000000) ∧ a.2.1.2 ≤ 1000000 ∧ a.2.1.1 = a.2.2.1.map (fun r => (wys A.1 n).getD r (0, 0, 0)) ∧ (∀ r, a.2.2.1 = some r → r < k ∧ a.2.1.2 = dst p ((wys A.1 n).getD r (0, 0, 0))) ∧ ∀ i q, i ≠ 109 → a.1 i q = w4 G 108 (ch A.1 (n - 1)).1 p i q) (wys A.1 n).length (fun a k hk hp' => by
          obtain ⟨B, acc, b, x5⟩ := a
          obtain ⟨p1, p2, p3, p4, p5⟩ := hp'
          dsimp only at p1 p2 p3 p4 p5
          have hfold : (List.range (k + 1)).foldl (fun acc k => nst A.1 n p acc ((wys A.1 n).getD k (0, 0, 0))) (none, 1000000) = nst A.1 n p acc ((wys A.1 n).getD k (0, 0, 0)) := by rw [List.range_succ, List.foldl_append, ← p1]; rfl
          have hbI : 0 ≤ bI b ∨ bI b = -6 := by cases b with
            | none => exact Or.inr rfl
            | some r => left; show (0 : Int) ≤ (r : Int); omega
          have hrB : RepS B 103 0 A.1 := RepS_o hrG fun q => (p5 _ _ (by omega)).trans (w4_o (by omega))
          have hLB : RepL B n (wys A.1 n) := RepL_o g2 ((p5 _ _ (by omega)).trans (w4_o (by omega))) fun q _ _ => (p5 _ _ (by omega)).trans (w4_o (by omega))
          have hn1 := hLB.1
          have hvv := RepL_in g2 hk
          have e139 := fun Q => c139 (L := L) (σ := σ) (Q := Q) hrB hl hn hLB.2 hk
          generalize hgv : (wys A.1 n).getD k (0, 0, 0) = v at *
          have hrC : RepS (w4 B 109 (ch A.1 n).1 v) 103 0 A.1 := RepS_o hrB fun q => w4_o (by omega)
          have hR1 : R4 (w4 B 109 (ch A.1 n).1 v) 108 (ch A.1 (n - 1)).1 p := R4_o w4_R fun q => (w4_o (by omega)).trans (p5 _ _ (by omega))
          have e129 := fun Q => c129 (L := L) (σ := σ) (Q := Q) hrC hA.1 hn hR1 w4_R hb4 hj3 (bass_le hA.1 hn) hvv
          have e135 := fun Q => c135 (L := L) (σ := σ) (I := w4 B 109 (ch A.1 n).1 v) (Q := Q) hR1 w4_R hj3 hvv
          obtain ⟨zz, hz, hz2⟩ := bhd_in A.1.1.1 A.1.1.2.2 (ch A.1 (n - 1)).1 p (ch A.1 n).1 v (tn A.1 n)
          have hd := dst_lt hj3 hvv
          have hoth : ∀ i q, i ≠ 109 → w4 B 109 (ch A.1 n).1 v i q = w4 G 108 (ch A.1 (n - 1)).1 p i q := fun i q hi => (w4_o hi).trans (p5 i q hi)
          unfold nst at hfold
          generalize bhd A.1.1.1 A.1.1.2.2 (ch A.1 (n - 1)).1 p (ch A.1 n).1 v (tn A.1 n) = BB at *
          generalize hW : w4 B 109 (ch A.1 n).1 v = W at *
          have hnI : (w4 B 109 (ch A.1 n).1 v) = W := hW
          by_cases q1 : BB = 0
          · by_cases q2 : dst p v < acc.2
            · rw [if_pos ⟨q2, q1⟩] at hfold
              refine ⟨(W, (some v, dst p v), some k, x5), ⟨hfold.symm, by show dst p v ≤ 1000000; omega, ?_, fun r hr => ?_, hoth⟩, fun Q => ?_⟩
              · show some v = (some k).map (fun r => (wys A.1 n).getD r (0, 0, 0))
                rw [Option.map_some, hgv]
              · cases hr; rw [hgv]; exact ⟨by omega, rfl⟩
              · show ev_w 165 55 [.ref 102, .int (iI (n : Int)), .int (iI w), .int (iI (bI b)), .int (iI (acc.2 : Int)), .int (iI (k : Int))] [] (hp L σ B) Q = _
                subst q1
                rw [u165_55]
                simp (disch := first | exact cat_i _ | exact cat_r _ | exact cat_n | omega) only [u165_57, u165_58, u165_61, u165_62, u165_63, u165_66, u165_67, u165_68, u165_70, u165_73, u165_74, u165_75, u165_78, u165_81, u165_82, u165_85, u165_87, u165_90, u165_92, u165_93, u165_94, u165_97, u165_99, u165_102, hT_102, hT_111, hR_102_10, hn1, e139, e129, e135, Int.cast_ofNat_Int, if_pos, if_neg, ↓reduceIte, false_and, and_false, false_or, or_false, ite_not, decide_true, decide_false, Bool.true_eq_false, Bool.false_eq_true, decide_eq_true_eq, decide_eq_false_iff_not, hp_I, hp_sI, hp_N, ev_k_s, ev_k_n, true_and, and_true, true_or, or_true, not_true_eq_false, not_false_eq_true, if_true, if_false, ite_self, Option.some.injEq, exists_eq_left', nb_0, nb_1, nb_z, zI_t, zI_f, zI_e, cat_i, cat_r, cat_n, iI_add, iI_sub, iI_mul, iI_neg, iI_lt, iI_le, iI_eq, iI_idx, iI_inT, iI_ne0, ite_false, ite_true, iN_0, iN_1, Int.reduceAdd, Int.reduceSub, Int.reduceMul, Int.reduceNeg, Int.reduceDiv, Int.reduceMod, Int.reduceEq, Int.reduceLT, Int.reduceLE, Int.reduceToNat, Nat.reduceAdd, Nat.reduceSub, Nat.reduceMul, Nat.reduceLT, Nat.reduceLeDiff, Nat.reduceEqDiff, Int.cast_ofNat_Int, Std.le_refl, and_self, Int.toNat_natCast, Int.toNat_zero, Nat.le_refl]
                all_goals rfl
            · rw [if_neg (fun k => q2 k.1)] at hfold
              refine ⟨(W, acc, b, x5), ⟨hfold.symm, p2, p3, fun r hr => ⟨by have := (p4 r hr).1; omega, (p4 r hr).2⟩, hoth⟩, fun Q => ?_⟩
              show ev_w 165 55 [.ref 102, .int (iI (n : Int)), .int (iI w), .int (iI (bI b)), .int (iI (acc.2 : Int)), .int (iI (k : Int))] [] (hp L σ B) Q = _
              subst q1
              rw [u165_55]
              simp (disch := first | exact cat_i _ | exact cat_r _ | exact cat_n | omega) only [u165_57, u165_58, u165_61, u165_62, u165_63, u165_66, u165_67, u165_68, u165_70, u165_73, u165_74, u165_75, u165_78, u165_81, u165_82, u165_85, u165_87, u165_90, u165_92, u165_93, u165_94, u165_97, u165_99, u165_102, hT_102, hT_111, hR_102_10, hn1, e139, e129, e135, Int.cast_ofNat_Int, if_pos, if_neg, ↓reduceIte, false_and, and_false, false_or, or_false, ite_not, decide_true, decide_false, Bool.true_eq_false, Bool.false_eq_true, decide_eq_true_eq, decide_eq_false_iff_not, hp_I, hp_sI, hp_N, ev_k_s, ev_k_n, true_and, and_true, true_or, or_true, not_true_eq_false, not_false_eq_true, if_true, if_false, ite_self, Option.some.injEq, exists_eq_left', nb_0, nb_1, nb_z, zI_t, zI_f, zI_e, cat_i, cat_r, cat_n, iI_add, iI_sub, iI_mul, iI_neg, iI_lt, iI_le, iI_eq, iI_idx, iI_inT, iI_ne0, ite_false, ite_true, iN_0, iN_1, Int.reduceAdd, Int.reduceSub, Int.reduceMul, Int.reduceNeg, Int.reduceDiv, Int.reduceMod, Int.reduceEq, Int.reduceLT, Int.reduceLE, Int.reduceToNat, Nat.reduceAdd, Nat.reduceSub, Nat.reduceMul, Nat.reduceLT, Nat.reduceLeDiff, Nat.reduceEqDiff, Int.cast_ofNat_Int, Std.le_refl, and_self, Int.toNat_natCast, Int.toNat_zero, Nat.le_refl]
              all_goals rfl
          · rw [if_neg (fun k => q1 k.2)] at hfold
            refine ⟨(W, acc, b, x5), ⟨hfold.symm, p2, p3, fun r hr => ⟨by have := (p4 r hr).1; omega, (p4 r hr).2⟩, hoth⟩, fun Q => ?_⟩
            show ev_w 165 55 [.ref 102, .int (iI (n : Int)), .int (iI w), .int (iI (bI b)), .int (iI (acc.2 : Int)), .int (iI (k : Int))] [] (hp L σ B) Q = _
            rw [u165_55]
            simp (disch := first | exact cat_i _ | exact cat_r _ | exact cat_n | omega) only [u165_57, u165_58, u165_61, u165_62, u165_63, u165_66, u165_67, u165_68, u165_70, u165_73, u165_74, u165_75, u165_78, u165_81, u165_82, u165_85, u165_87, u165_90, u165_92, u165_93, u165_94, u165_97, u165_99, u165_102, hT_102, hT_111, hR_102_10, hn1, e139, e129, if_pos, if_neg, ↓reduceIte, false_and, and_false, false_or, or_false, ite_not, decide_true, decide_false, Bool.true_eq_false, Bool.false_eq_true, decide_eq_true_eq, decide_eq_false_iff_not, hp_I, hp_sI, hp_N, ev_k_s, ev_k_n, true_and, and_true, true_or, or_true, not_true_eq_false, not_false_eq_true, if_true, if_false, ite_self, Option.some.injEq, exists_eq_left', nb_0, nb_1, nb_z, zI_t, zI_f, zI_e, cat_i, cat_r, cat_n, iI_add, iI_sub, iI_mul, iI_neg, iI_lt, iI_le, iI_eq, iI_idx, iI_inT, iI_ne0, ite_false, ite_true, iN_0, iN_1, Int.reduceAdd, Int.reduceSub, Int.reduceMul, Int.reduceNeg, Int.reduceDiv, Int.reduceMod, Int.reduceEq, Int.reduceLT, Int.reduceLE, Int.reduceToNat, Nat.reduceAdd, Nat.reduceSub, Nat.reduceMul, Nat.reduceLT, Nat.reduceLeDiff, Nat.reduceEqDiff, Int.cast_ofNat_Int, Std.le_refl, and_self, Int.toNat_natCast, Int.toNat_zero, Nat.le_refl]
            all_goals rfl) (wys A.1 n).length 0 (w4 G 108 (ch A.1 (n - 1)).1 p, (none, 1000000), none, .null) (by omega) ⟨rfl, Nat.le_refl _, rfl, fun r h => (by cases h), fun _ _ _ => rfl⟩
        dsimp only at p1 p2 p3 p4 p5
        have hnear : acc = near A.1 n p (wys A.1 n) := p1
        rw [← hnear, p3]
        have hrJ : RepS J 103 0 A.1 := RepS_o hrG fun q => (p5 _ _ (by omega)).trans (w4_o (by omega))
        have hLJ : RepL J n (wys A.1 n) := RepL_o g2 ((p5 _ _ (by omega)).trans (w4_o (by omega))) fun q _ _ => (p5 _ _ (by omega)).trans (w4_o (by omega))
        have hn1 := hLJ.1
        have hOJ : OthM I J := fun i q a => (p5 i q (by omega)).trans ((w4_o (by omega)).trans (g3 i q (by omega) (by omega) (by omega) (by omega)))
        have start : ∀ Q : Option Value → fb_H → Prop, ev_c 165 [.ref 102, .int (iI (n : Int)), .int (iI w)] (hp L σ I) Q = ev_w 165 105 [.ref 102, .int (iI (n : Int)), .int (iI w), .int (iI (bI b)), .int (iI (acc.2 : Int)), .int (iI ((wys A.1 n).length : Int))] [] (hp L σ J) Q := fun Q => by
          have e0 := e Q
          clear e
          simp (disch := first | exact cat_i _ | exact cat_r _ | exact cat_n | omega) only [u165_0, u165_1, u165_2, u165_5, u165_8, u165_9, u165_10, u165_11, u165_12, u165_13, u165_16, u165_19, u165_21, u165_22, u165_23, u165_24, u165_25, u165_26, u165_29, u165_32, u165_34, u165_35, u165_36, u165_37, u165_40, u165_41, u165_42, u165_45, u165_47, u165_48, u165_50, u165_52, u165_53, e165, hT_102, e116, zI_dt hh, c113, zI_dt f, e118p, g1, e132, if_pos, if_neg, ↓reduceIte, false_and, and_false, false_or, or_false, ite_not, decide_true, decide_false, Bool.true_eq_false, Bool.false_eq_true, decide_eq_true_eq, decide_eq_false_iff_not, hp_I, hp_sI, hp_N, ev_k_s, ev_k_n, true_and, and_true, true_or, or_true, not_true_eq_false, not_false_eq_true, if_true, if_false, ite_self, Option.some.injEq, exists_eq_left', nb_0, nb_1, nb_z, zI_t, zI_f, zI_e, cat_i, cat_r, cat_n, iI_add, iI_sub, iI_mul, iI_neg, iI_lt, iI_le, iI_eq, iI_idx, iI_inT, iI_ne0, ite_false, ite_true, iN_0, iN_1, Int.reduceAdd, Int.reduceSub, Int.reduceMul, Int.reduceNeg, Int.reduceDiv, Int.reduceMod, Int.reduceEq, Int.reduceLT, Int.reduceLE, Int.reduceToNat, Nat.reduceAdd, Nat.reduceSub, Nat.reduceMul, Nat.reduceLT, Nat.reduceLeDiff, Nat.reduceEqDiff, Int.cast_ofNat_Int, Std.le_refl, and_self, Int.toNat_natCast, Int.toNat_zero, Nat.le_refl]
          refine Eq.trans e0 ?_
          show ev_w 165 55 [.ref 102, .int (iI (n : Int)), .int (iI w), .int (iI (bI b)), .int (iI (acc.2 : Int)), .int (iI ((wys A.1 n).length : Int))] [] (hp L σ J) Q = _
          generalize bI b = bb
          simp (disch := first | exact cat_i _ | exact cat_r _ | exact cat_n | omega) only [u165_55, u165_57, u165_58, u165_61, u165_62, u165_63, hT_102, hT_111, hR_102_10, hn1, if_pos, if_neg, ↓reduceIte, false_and, and_false, false_or, or_false, ite_not, decide_true, decide_false, Bool.true_eq_false, Bool.false_eq_true, decide_eq_true_eq, decide_eq_false_iff_not, hp_I, hp_sI, hp_N, ev_k_s, ev_k_n, true_and, and_true, true_or, or_true, not_true_eq_false, not_false_eq_true, if_true, if_false, ite_self, Option.some.injEq, exists_eq_left', nb_0, nb_1, nb_z, zI_t, zI_f, zI_e, cat_i, cat_r, cat_n, iI_add, iI_sub, iI_mul, iI_neg, iI_lt, iI_le, iI_eq, iI_idx, iI_inT, iI_ne0, ite_false, ite_true, iN_0, iN_1, Int.reduceAdd, Int.reduceSub, Int.reduceMul, Int.reduceNeg, Int.reduceDiv, Int.reduceMod, Int.reduceEq, Int.reduceLT, Int.reduceLE, Int.reduceToNat, Nat.reduceAdd, Nat.reduceSub, Nat.reduceMul, Nat.reduceLT, Nat.reduceLeDiff, Nat.reduceEqDiff, Int.cast_ofNat_Int, Std.le_refl, and_self, Int.toNat_natCast, Int.toNat_zero, Nat.le_refl]
        clear e
        cases b with
        | none =>
          refine MR_v hM (J := J) (fun Q => ?_) hOJ
          refine Eq.trans (start Q) ?_
          show ev_w 165 105 [.ref 102, .int (iI (n : Int)), .int (iI w), .int (iI (-6)), .int (iI (acc.2 : Int)), .int (iI ((wys A.1 n).length : Int))] [] (hp L σ J) Q = _
          simp (disch := first | exact cat_i _ | exact cat_r _ | exact cat_n | omega) only [u165_105, u165_106, u165_108, u165_111, u165_113, hT_102, if_pos, if_neg, ↓reduceIte, false_and, and_false, false_or, or_false, ite_not, decide_true, decide_false, Bool.true_eq_false, Bool.false_eq_true, decide_eq_true_eq, decide_eq_false_iff_not, hp_I, hp_sI, hp_N, ev_k_s, ev_k_n, true_and, and_true, true_or, or_true, not_true_eq_false, not_false_eq_true, if_true, if_false, ite_self, Option.some.injEq, exists_eq_left', nb_0, nb_1, nb_z, zI_t, zI_f, zI_e, cat_i, cat_r, cat_n, iI_add, iI_sub, iI_mul, iI_neg, iI_lt, iI_le, iI_eq, iI_idx, iI_inT, iI_ne0, ite_false, ite_true, iN_0, iN_1, Int.reduceAdd, Int.reduceSub, Int.reduceMul, Int.reduceNeg, Int.reduceDiv, Int.reduceMod, Int.reduceEq, Int.reduceLT, Int.reduceLE, Int.reduceToNat, Nat.reduceAdd, Nat.reduceSub, Nat.reduceMul, Nat.reduceLT, Nat.reduceLeDiff, Nat.reduceEqDiff, Int.cast_ofNat_Int, Std.le_refl, and_self, Int.toNat_natCast, Int.toNat_zero, Nat.le_refl]
          all_goals rfl
        | some k =>
          obtain ⟨hk1, hk2⟩ := p4 k rfl
          rw [Option.map_some]
          dsimp only
          have hvv := RepL_in g2 hk1
          have e139 := fun Q => c139 (L := L) (σ := σ) (Q := Q) hrJ hl hn hLJ.2 hk1
          generalize hgv : (wys A.1 n).getD k (0, 0, 0) = v at *
          obtain ⟨d0, d1, d2, d3⟩ := w4_R (I := J) (a := 109) (b := (ch A.1 n).1) (v := v)
          refine MR_v hM (J := w4 J 109 (ch A.1 n).1 v) (fun Q => ?_) fun i q a => (w4_o (by omega)).trans (hOJ i q a)
          refine Eq.trans (start Q) ?_
          show ev_w 165 105 [.ref 102, .int (iI (n : Int)), .int (iI w), .int (iI (k : Int)), .int (iI (acc.2 : Int)), .int (iI ((wys A.1 n).length : Int))] [] (hp L σ J) Q = _
          rw [hk2]
          rcases (show w = 0 ∨ w = 1 ∨ w = 2 ∨ w = 3 by omega) with rfl | rfl | rfl | rfl
          all_goals simp (disch := first | exact cat_i _ | exact cat_r _ | exact cat_n | omega) only [u165_105, u165_106, u165_108, u165_111, u165_113, u165_114, u165_115, u165_116, u165_117, u165_120, u165_121, u165_122, u165_125, u165_127, u165_130, u165_131, u165_134, u165_135, u165_136, u165_137, u165_138, hT_102, hT_109, hR_102_8, e139, d1, d2, d3, if_pos, if_neg, ↓reduceIte, false_and, and_false, false_or, or_false, ite_not, decide_true, decide_false, Bool.true_eq_false, Bool.false_eq_true, decide_eq_true_eq, decide_eq_false_iff_not, hp_I, hp_sI, hp_N, ev_k_s, ev_k_n, true_and, and_true, true_or, or_true, not_true_eq_false, not_false_eq_true, if_true, if_false, ite_self, Option.some.injEq, exists_eq_left', nb_0, nb_1, nb_z, zI_t, zI_f, zI_e, cat_i, cat_r, cat_n, iI_add, iI_sub, iI_mul, iI_neg, iI_lt, iI_le, iI_eq, iI_idx, iI_inT, iI_ne0, ite_false, ite_true, iN_0, iN_1, Int.reduceAdd, Int.reduceSub, Int.reduceMul, Int.reduceNeg, Int.reduceDiv, Int.reduceMod, Int.reduceEq, Int.reduceLT, Int.reduceLE, Int.reduceToNat, Nat.reduceAdd, Nat.reduceSub, Nat.reduceMul, Nat.reduceLT, Nat.reduceLeDiff, Nat.reduceEqDiff, Int.cast_ofNat_Int, Std.le_refl, and_self, Int.toNat_natCast, Int.toNat_zero, Nat.le_refl]
          all_goals rfl
    · rw [if_pos f]
      refine MR_id hM fun Q => ?_
      simp (disch := first | exact cat_i _ | exact cat_r _ | exact cat_n | omega) only [u165_0, u165_1, u165_2, u165_5, u165_8, u165_9, u165_10, u165_11, u165_12, u165_13, u165_16, u165_19, u165_21, e165, hT_102, e116, zI_dt hh, c113, zI_df f, if_pos, if_neg, ↓reduceIte, false_and, and_false, false_or, or_false, ite_not, decide_true, decide_false, Bool.true_eq_false, Bool.false_eq_true, decide_eq_true_eq, decide_eq_false_iff_not, hp_I, hp_sI, hp_N, ev_k_s, ev_k_n, true_and, and_true, true_or, or_true, not_true_eq_false, not_false_eq_true, if_true, if_false, ite_self, Option.some.injEq, exists_eq_left', nb_0, nb_1, nb_z, zI_t, zI_f, zI_e, cat_i, cat_r, cat_n, iI_add, iI_sub, iI_mul, iI_neg, iI_lt, iI_le, iI_eq, iI_idx, iI_inT, iI_ne0, ite_false, ite_true, iN_0, iN_1, Int.reduceAdd, Int.reduceSub, Int.reduceMul, Int.reduceNeg, Int.reduceDiv, Int.reduceMod, Int.reduceEq, Int.reduceLT, Int.reduceLE, Int.reduceToNat, Nat.reduceAdd, Nat.reduceSub, Nat.reduceMul, Nat.reduceLT, Nat.reduceLeDiff, Nat.reduceEqDiff, Int.cast_ofNat_Int, Std.le_refl, and_self, Int.toNat_natCast, Int.toNat_zero, Nat.le_refl]
  · rw [if_pos hh]
    refine MR_id hM fun Q => ?_
    simp (disch := first | exact cat_i _ | exact cat_r _ | exact cat_n | omega) only [u165_0, u165_1, u165_2, u165_5, u165_8, u165_9, e165, hT_102, e116, zI_df hh, if_pos, if_neg, ↓reduceIte, false_and, and_false, false_or, or_false, ite_not, decide_true, decide_false, Bool.true_eq_false, Bool.false_eq_true, decide_eq_true_eq, decide_eq_false_iff_not, hp_I, hp_sI, hp_N, ev_k_s, ev_k_n, true_and, and_true, true_or, or_true, not_true_eq_false, not_false_eq_true, if_true, if_false, ite_self, Option.some.injEq, exists_eq_left', nb_0, nb_1, nb_z, zI_t, zI_f, zI_e, cat_i, cat_r, cat_n, iI_add, iI_sub, iI_mul, iI_neg, iI_lt, iI_le, iI_eq, iI_idx, iI_inT, iI_ne0, ite_false, ite_true, iN_0, iN_1, Int.reduceAdd, Int.reduceSub, Int.reduceMul, Int.reduceNeg, Int.reduceDiv, Int.reduceMod, Int.reduceEq, Int.reduceLT, Int.reduceLE, Int.reduceToNat, Nat.reduceAdd, Nat.reduceSub, Nat.reduceMul, Nat.reduceLT, Nat.reduceLeDiff, Nat.reduceEqDiff, Int.cast_ofNat_Int, Std.le_refl, and_self, Int.toNat_natCast, Int.toNat_zero, Nat.le_refl]
/-- undo -/
theorem m182 (hM : RepM I A) (hA : AV A) : MR L σ I 182 [.ref 102] (opUndo A) := by
  obtain ⟨h1, ⟨k1, k2⟩, h3, h4⟩ := id hM
  have h6 := hA.2.1.1
  unfold opUndo
  by_cases hz : A.2.1.length = 0
  · rw [if_pos hz]
    rw [hz] at k1
    refine MR_id hM fun Q => ?_
    simp (disch := first | exact cat_i _ | exact cat_r _ | exact cat_n | omega) only [u182_0, u182_1, u182_4, u182_7, u182_9, e182, hT_102, k1, Int.cast_ofNat_Int, if_pos, if_neg, ↓reduceIte, false_and, and_false, false_or, or_false, ite_not, decide_true, decide_false, Bool.true_eq_false, Bool.false_eq_true, decide_eq_true_eq, decide_eq_false_iff_not, hp_I, hp_sI, hp_N, ev_k_s, ev_k_n, true_and, and_true, true_or, or_true, not_true_eq_false, not_false_eq_true, if_true, if_false, ite_self, Option.some.injEq, exists_eq_left', nb_0, nb_1, nb_z, zI_t, zI_f, zI_e, cat_i, cat_r, cat_n, iI_add, iI_sub, iI_mul, iI_neg, iI_lt, iI_le, iI_eq, iI_idx, iI_inT, iI_ne0, ite_false, ite_true, iN_0, iN_1, Int.reduceAdd, Int.reduceSub, Int.reduceMul, Int.reduceNeg, Int.reduceDiv, Int.reduceMod, Int.reduceEq, Int.reduceLT, Int.reduceLE, Int.reduceToNat, Nat.reduceAdd, Nat.reduceSub, Nat.reduceMul, Nat.reduceLT, Nat.reduceLeDiff, Nat.reduceEqDiff, Int.cast_ofNat_Int, Std.le_refl, and_self, Int.toNat_natCast, Int.toNat_zero, Nat.le_refl]
  · rw [if_neg hz]
    generalize hlen : A.2.1.length = len at *
    have f1 : (len : Int) - 1 = ((len - 1 : Nat) : Int) := by omega
    have lp := fun Q : Option Value → fb_H → Prop => lf0 (fun (B : Nat → Nat → Int32) (k : Nat) => ev_w 182 22 [.ref 102, .int (iI (k : Int))] [] (hp L σ B) Q) (fun B k => fb_u2 B 103 k (I 104 (64 * (len - 1) + k))) (fun B k => B 102 2 = iI ((len - 1 : Nat) : Int) ∧ (∀ i q, i ≠ 103 → ¬ (i = 102 ∧ q = 2) → B i q = I i q) ∧ ∀ q, q < k → B 103 q = I 104 (64 * (len - 1) + q)) 64 (fun B k hk hp' => by
      obtain ⟨p0, p1, p2⟩ := hp'
      refine ⟨⟨(u2_ne (by omega)).trans p0, fun i q a b => (u2_ne (by omega)).trans (p1 i q a b), fun q hq => ?_⟩, ?_⟩
      · by_cases e : q = k
        · subst e; exact u2_eq
        · rw [u2_ne (by omega)]; exact p2 q (by omega)
      · show ev_w 182 22 [.ref 102, .int (iI (k : Int))] [] (hp L σ B) Q = _
        have g1 : B 104 (64 * (len - 1) + k) = I 104 (64 * (len - 1) + k) := p1 _ _ (by omega) (by omega)
        have g2 : (64 * ((len - 1 : Nat) : Int) + (k : Int)).toNat = 64 * (len - 1) + k := by omega
        rw [u182_22]
        simp (disch := first | exact cat_i _ | exact cat_r _ | exact cat_n | omega) only [u182_23, u182_25, u182_28, u182_29, u182_32, u182_33, u182_34, u182_37, u182_39, u182_40, u182_43, u182_44, u182_45, u182_46, u182_47, u182_48, u182_51, hT_102, hT_103, hT_104, hR_102_0, hR_102_1, p0, g1, g2, if_pos, if_neg, ↓reduceIte, false_and, and_false, false_or, or_false, ite_not, decide_true, decide_false, Bool.true_eq_false, Bool.false_eq_true, decide_eq_true_eq, decide_eq_false_iff_not, hp_I, hp_sI, hp_N, ev_k_s, ev_k_n, true_and, and_true, true_or, or_true, not_true_eq_false, not_false_eq_true, if_true, if_false, ite_self, Option.some.injEq, exists_eq_left', nb_0, nb_1, nb_z, zI_t, zI_f, zI_e, cat_i, cat_r, cat_n, iI_add, iI_sub, iI_mul, iI_neg, iI_lt, iI_le, iI_eq, iI_idx, iI_inT, iI_ne0, ite_false, ite_true, iN_0, iN_1, Int.reduceAdd, Int.reduceSub, Int.reduceMul, Int.reduceNeg, Int.reduceDiv, Int.reduceMod, Int.reduceEq, Int.reduceLT, Int.reduceLE, Int.reduceToNat, Nat.reduceAdd, Nat.reduceSub, Nat.reduceMul, Nat.reduceLT, Nat.reduceLeDiff, Nat.reduceEqDiff, Int.cast_ofNat_Int, Std.le_refl, and_self, Int.toNat_natCast, Int.toNat_zero, Nat.le_refl]
        all_goals rfl) (fb_u2 I 102 2 (iI ((len - 1 : Nat) : Int))) ⟨u2_eq, fun i q a b => u2_ne (by omega), fun q h => absurd h (Nat.not_lt_zero q)⟩
    generalize hJ : (List.range 64).foldl (fun B k => fb_u2 B 103 k (I 104 (64 * (len - 1) + k))) (fb_u2 I 102 2 (iI ((len - 1 : Nat) : Int))) = J at lp
    obtain ⟨j0, j1, j2⟩ := (lp (fun _ _ => True)).2
    have hin : A.2.1.getD (len - 1) ((0, 0, 0), []) ∈ A.2.1 := by
      rw [List.getD_eq_getElem?_getD, List.getElem?_eq_getElem (by omega)]
      exact List.getElem_mem (by omega)
    have hdl : A.2.1.dropLast.length = len - 1 := by rw [List.length_dropLast, hlen]
    refine ⟨J, fun Q => ?_, ⟨?_, ⟨by rw [hdl]; exact j0, fun k hk => ?_⟩, RepQ_o h3 (fun q => j1 _ _ (by omega) (by omega)) fun q => j1 _ _ (by omega) (by omega), RepY_o h4 (j1 _ _ (by omega) (by omega)) fun q => j1 _ _ (by omega) (by omega)⟩, fun i q a => j1 i q (by omega) (by omega)⟩
    · have l1 := (lp Q).1
      clear lp hJ
      rw [f1]
      simp (disch := first | exact cat_i _ | exact cat_r _ | exact cat_n | omega) only [u182_0, u182_1, u182_4, u182_7, u182_9, u182_10, u182_11, u182_12, u182_15, u182_16, u182_17, u182_20, u182_21, e182, hT_102, k1, f1, if_pos, if_neg, ↓reduceIte, false_and, and_false, false_or, or_false, ite_not, decide_true, decide_false, Bool.true_eq_false, Bool.false_eq_true, decide_eq_true_eq, decide_eq_false_iff_not, hp_I, hp_sI, hp_N, ev_k_s, ev_k_n, true_and, and_true, true_or, or_true, not_true_eq_false, not_false_eq_true, if_true, if_false, ite_self, Option.some.injEq, exists_eq_left', nb_0, nb_1, nb_z, zI_t, zI_f, zI_e, cat_i, cat_r, cat_n, iI_add, iI_sub, iI_mul, iI_neg, iI_lt, iI_le, iI_eq, iI_idx, iI_inT, iI_ne0, ite_false, ite_true, iN_0, iN_1, Int.reduceAdd, Int.reduceSub, Int.reduceMul, Int.reduceNeg, Int.reduceDiv, Int.reduceMod, Int.reduceEq, Int.reduceLT, Int.reduceLE, Int.reduceToNat, Nat.reduceAdd, Nat.reduceSub, Nat.reduceMul, Nat.reduceLT, Nat.reduceLeDiff, Nat.reduceEqDiff, Int.cast_ofNat_Int, Std.le_refl, and_self, Int.toNat_natCast, Int.toNat_zero, Nat.le_refl]
      refine Eq.trans l1 ?_
      simp (disch := first | exact cat_i _ | exact cat_r _ | exact cat_n | omega) only [u182_22, u182_23, u182_25, u182_54, u182_55, u182_58, hT_102, j0, Int.cast_ofNat_Int, if_pos, if_neg, ↓reduceIte, false_and, and_false, false_or, or_false, ite_not, decide_true, decide_false, Bool.true_eq_false, Bool.false_eq_true, decide_eq_true_eq, decide_eq_false_iff_not, hp_I, hp_sI, hp_N, ev_k_s, ev_k_n, true_and, and_true, true_or, or_true, not_true_eq_false, not_false_eq_true, if_true, if_false, ite_self, Option.some.injEq, exists_eq_left', nb_0, nb_1, nb_z, zI_t, zI_f, zI_e, cat_i, cat_r, cat_n, iI_add, iI_sub, iI_mul, iI_neg, iI_lt, iI_le, iI_eq, iI_idx, iI_inT, iI_ne0, ite_false, ite_true, iN_0, iN_1, Int.reduceAdd, Int.reduceSub, Int.reduceMul, Int.reduceNeg, Int.reduceDiv, Int.reduceMod, Int.reduceEq, Int.reduceLT, Int.reduceLE, Int.reduceToNat, Nat.reduceAdd, Nat.reduceSub, Nat.reduceMul, Nat.reduceLT, Nat.reduceLeDiff, Nat.reduceEqDiff, Int.cast_ofNat_Int, Std.le_refl, and_self, Int.toNat_natCast, Int.toNat_zero, Nat.le_refl]
    · exact RepS_cp (k2 (len - 1) (by omega)) (hA.2.1.2 _ hin).2.2.2.1 fun j hj => by rw [Nat.zero_add]; exact j2 j hj
    · rw [hdl] at hk
      have e1 : A.2.1.dropLast.getD k ((0, 0, 0), []) = A.2.1.getD k ((0, 0, 0), []) := by
        rw [List.getD_eq_getElem?_getD, List.getD_eq_getElem?_getD, List.getElem?_dropLast, hlen, if_pos (by omega)]
      rw [e1]
      exact RepS_o (k2 k (by omega)) fun q => j1 _ _ (by omega) (by omega)
/-- save -/
theorem m183 (hM : RepM I A) (hA : AV A) (hx1 : -2147483648 ≤ x) (hx2 : x < 2147483648) : MR L σ I 183 [.ref 102, .int (iI x)] (opSave A x) := by
  obtain ⟨h1, h2, ⟨s1, s2, s3, s4⟩, h4⟩ := id hM
  have hl := hA.1.2.2.2.1
  unfold opSave
  by_cases hh : 0 ≤ x ∧ x < 2
  · rw [if_neg (fun k => k hh)]
    have hd : 0 ≤ x ∧ x ≤ 1 := by omega
    obtain ⟨t, rfl⟩ := Int.eq_ofNat_of_zero_le hh.1
    have ht : t < 2 := by omega
    have lp := fun Q : Option Value → fb_H → Prop => lf0 (fun (B : Nat → Nat → Int32) (k : Nat) => ev_w 183 14 [.ref 102, .int (iI (t : Int)), .int (iI (k : Int))] [] (hp L σ B) Q) (fun B k => fb_u2 B 105 (64 * t + k) (I 103 k)) (fun B k => (∀ i q, ¬ (i = 105 ∧ 64 * t ≤ q ∧ q < 64 * t + 64) → B i q = I i q) ∧ ∀ q, q < k → B 105 (64 * t + q) = I 103 q) 64 (fun B k hk hp' => by
      obtain ⟨p1, p2⟩ := hp'
      refine ⟨⟨fun i q a => (u2_ne (by omega)).trans (p1 i q a), fun q hq => ?_⟩, ?_⟩
      · by_cases e : q = k
        · subst e; exact u2_eq
        · rw [u2_ne (by omega)]; exact p2 q (by omega)
      · show ev_w 183 14 [.ref 102, .int (iI (t : Int)), .int (iI (k : Int))] [] (hp L σ B) Q = _
        have g1 : B 103 k = I 103 k := p1 _ _ (by omega)
        have g2 : (64 * (t : Int) + (k : Int)).toNat = 64 * t + k := by omega
        rw [u183_14]
        simp (disch := first | exact cat_i _ | exact cat_r _ | exact cat_n | omega) only [u183_15, u183_17, u183_20, u183_21, u183_24, u183_26, u183_27, u183_28, u183_29, u183_30, u183_31, u183_34, u183_35, u183_36, u183_37, u183_40, hT_102, hT_103, hT_105, hR_102_0, hR_102_3, g1, g2, if_pos, if_neg, ↓reduceIte, false_and, and_false, false_or, or_false, ite_not, decide_true, decide_false, Bool.true_eq_false, Bool.false_eq_true, decide_eq_true_eq, decide_eq_false_iff_not, hp_I, hp_sI, hp_N, ev_k_s, ev_k_n, true_and, and_true, true_or, or_true, not_true_eq_false, not_false_eq_true, if_true, if_false, ite_self, Option.some.injEq, exists_eq_left', nb_0, nb_1, nb_z, zI_t, zI_f, zI_e, cat_i, cat_r, cat_n, iI_add, iI_sub, iI_mul, iI_neg, iI_lt, iI_le, iI_eq, iI_idx, iI_inT, iI_ne0, ite_false, ite_true, iN_0, iN_1, Int.reduceAdd, Int.reduceSub, Int.reduceMul, Int.reduceNeg, Int.reduceDiv, Int.reduceMod, Int.reduceEq, Int.reduceLT, Int.reduceLE, Int.reduceToNat, Nat.reduceAdd, Nat.reduceSub, Nat.reduceMul, Nat.reduceLT, Nat.reduceLeDiff, Nat.reduceEqDiff, Int.cast_ofNat_Int, Std.le_refl, and_self, Int.toNat_natCast, Int.toNat_zero, Nat.le_refl]
        all_goals rfl) I ⟨fun i q a => rfl, fun q h => absurd h (Nat.not_lt_zero q)⟩
    generalize hJ : (List.range 64).foldl (fun B k => fb_u2 B 105 (64 * t + k) (I 103 k)) I = J at lp
    obtain ⟨j1, j2⟩ := (lp (fun _ _ => True)).2
    have hJ0 : fb_u2 J 106 t (iI 1) 103 0 = iI (A.1.2.length : Int) := (u2_ne (by omega)).trans ((j1 _ _ (by omega)).trans h1.1)
    have hS : RepS (fb_u2 J 106 t (iI 1)) 105 (64 * t) A.1 := RepS_cp h1 hl fun j hj => by rw [u2_ne (by omega), Nat.zero_add]; exact j2 j hj
    refine ⟨fb_u2 J 106 t (iI 1), fun Q => ?_, ⟨RepS_o h1 fun q => (u2_ne (by omega)).trans (j1 _ _ (by omega)), RepK_o h2 ((u2_ne (by omega)).trans (j1 _ _ (by omega))) fun q => (u2_ne (by omega)).trans (j1 _ _ (by omega)), ?_, RepY_o h4 ((u2_ne (by omega)).trans (j1 _ _ (by omega))) fun q => (u2_ne (by omega)).trans (j1 _ _ (by omega))⟩, fun i q a => (u2_ne (by omega)).trans (j1 _ _ (by omega))⟩
    · have l1 := (lp Q).1
      clear lp hJ
      simp (disch := first | exact cat_i _ | exact cat_r _ | exact cat_n | omega) only [u183_0, u183_1, u183_2, u183_3, u183_6, u183_9, u183_11, u183_12, u183_13, e183, hT_102, c113, zI_dt hd, if_pos, if_neg, ↓reduceIte, false_and, and_false, false_or, or_false, ite_not, decide_true, decide_false, Bool.true_eq_false, Bool.false_eq_true, decide_eq_true_eq, decide_eq_false_iff_not, hp_I, hp_sI, hp_N, ev_k_s, ev_k_n, true_and, and_true, true_or, or_true, not_true_eq_false, not_false_eq_true, if_true, if_false, ite_self, Option.some.injEq, exists_eq_left', nb_0, nb_1, nb_z, zI_t, zI_f, zI_e, cat_i, cat_r, cat_n, iI_add, iI_sub, iI_mul, iI_neg, iI_lt, iI_le, iI_eq, iI_idx, iI_inT, iI_ne0, ite_false, ite_true, iN_0, iN_1, Int.reduceAdd, Int.reduceSub, Int.reduceMul, Int.reduceNeg, Int.reduceDiv, Int.reduceMod, Int.reduceEq, Int.reduceLT, Int.reduceLE, Int.reduceToNat, Nat.reduceAdd, Nat.reduceSub, Nat.reduceMul, Nat.reduceLT, Nat.reduceLeDiff, Nat.reduceEqDiff, Int.cast_ofNat_Int, Std.le_refl, and_self, Int.toNat_natCast, Int.toNat_zero, Nat.le_refl]
      refine Eq.trans l1 ?_
      simp (disch := first | exact cat_i _ | exact cat_r _ | exact cat_n | omega) only [u183_14, u183_15, u183_17, u183_43, u183_44, u183_47, u183_48, u183_49, u183_50, u183_51, u183_54, u183_55, u183_56, hT_102, hT_103, hT_106, hR_102_0, hR_102_4, vb_1, hJ0, Int.cast_ofNat_Int, if_pos, if_neg, ↓reduceIte, false_and, and_false, false_or, or_false, ite_not, decide_true, decide_false, Bool.true_eq_false, Bool.false_eq_true, decide_eq_true_eq, decide_eq_false_iff_not, hp_I, hp_sI, hp_N, ev_k_s, ev_k_n, true_and, and_true, true_or, or_true, not_true_eq_false, not_false_eq_true, if_true, if_false, ite_self, Option.some.injEq, exists_eq_left', nb_0, nb_1, nb_z, zI_t, zI_f, zI_e, cat_i, cat_r, cat_n, iI_add, iI_sub, iI_mul, iI_neg, iI_lt, iI_le, iI_eq, iI_idx, iI_inT, iI_ne0, ite_false, ite_true, iN_0, iN_1, Int.reduceAdd, Int.reduceSub, Int.reduceMul, Int.reduceNeg, Int.reduceDiv, Int.reduceMod, Int.reduceEq, Int.reduceLT, Int.reduceLE, Int.reduceToNat, Nat.reduceAdd, Nat.reduceSub, Nat.reduceMul, Nat.reduceLT, Nat.reduceLeDiff, Nat.reduceEqDiff, Int.cast_ofNat_Int, Std.le_refl, and_self, Int.toNat_natCast, Int.toNat_zero, Nat.le_refl]
    · rcases (show t = 0 ∨ t = 1 by omega) with rfl | rfl
      · refine ⟨u2_eq, (u2_ne (by omega)).trans ((j1 _ _ (by omega)).trans s2), fun S e => ?_, fun S e => ?_⟩
        · cases e; exact hS
        · have e' : A.2.2.1.2 = some S := e
          exact RepS_cp (s4 S e') (hA.2.2.1.2 S e').2.2.2.1 fun j hj => (u2_ne (by omega)).trans (j1 _ _ (by omega))
      · refine ⟨(u2_ne (by omega)).trans ((j1 _ _ (by omega)).trans s1), u2_eq, fun S e => ?_, fun S e => ?_⟩
        · have e' : A.2.2.1.1 = some S := e
          exact RepS_cp (s3 S e') (hA.2.2.1.1 S e').2.2.2.1 fun j hj => (u2_ne (by omega)).trans (j1 _ _ (by omega))
        · cases e; exact hS
  · rw [if_pos hh]
    have hd : ¬ (0 ≤ x ∧ x ≤ 1) := by omega
    refine MR_id hM fun Q => ?_
    simp (disch := first | exact cat_i _ | exact cat_r _ | exact cat_n | omega) only [u183_0, u183_1, u183_2, u183_3, u183_6, u183_9, u183_11, e183, hT_102, c113, zI_df hd, if_pos, if_neg, ↓reduceIte, false_and, and_false, false_or, or_false, ite_not, decide_true, decide_false, Bool.true_eq_false, Bool.false_eq_true, decide_eq_true_eq, decide_eq_false_iff_not, hp_I, hp_sI, hp_N, ev_k_s, ev_k_n, true_and, and_true, true_or, or_true, not_true_eq_false, not_false_eq_true, if_true, if_false, ite_self, Option.some.injEq, exists_eq_left', nb_0, nb_1, nb_z, zI_t, zI_f, zI_e, cat_i, cat_r, cat_n, iI_add, iI_sub, iI_mul, iI_neg, iI_lt, iI_le, iI_eq, iI_idx, iI_inT, iI_ne0, ite_false, ite_true, iN_0, iN_1, Int.reduceAdd, Int.reduceSub, Int.reduceMul, Int.reduceNeg, Int.reduceDiv, Int.reduceMod, Int.reduceEq, Int.reduceLT, Int.reduceLE, Int.reduceToNat, Nat.reduceAdd, Nat.reduceSub, Nat.reduceMul, Nat.reduceLT, Nat.reduceLeDiff, Nat.reduceEqDiff, Int.cast_ofNat_Int, Std.le_refl, and_self, Int.toNat_natCast, Int.toNat_zero, Nat.le_refl]
/-- restore -/
theorem m184 (hM : RepM I A) (hA : AV A) (hx1 : -2147483648 ≤ x) (hx2 : x < 2147483648) : MR L σ I 184 [.ref 102, .int (iI x)] (opRest A x) := by
  obtain ⟨h1, h2, ⟨s1, s2, s3, s4⟩, h4⟩ := id hM
  have hl := hA.1.2.2.2.1
  unfold opRest
  by_cases hh : 0 ≤ x ∧ x < 2
  · rw [if_neg (fun k => k hh)]
    have hd : 0 ≤ x ∧ x ≤ 1 := by omega
    obtain ⟨t, rfl⟩ := Int.eq_ofNat_of_zero_le hh.1
    have ht : t < 2 := by omega
    have hsl : I 106 t = zI (if (t : Int) = 0 then A.2.2.1.1 else A.2.2.1.2).isSome ∧ ∀ S, (if (t : Int) = 0 then A.2.2.1.1 else A.2.2.1.2) = some S → RepS I 105 (64 * t) S ∧ VS S := by
      rcases (show t = 0 ∨ t = 1 by omega) with rfl | rfl
      · exact ⟨s1, fun S e => ⟨s3 S e, hA.2.2.1.1 S e⟩⟩
      · exact ⟨s2, fun S e => ⟨s4 S e, hA.2.2.1.2 S e⟩⟩
    obtain ⟨hs1, hs2⟩ := hsl
    cases hS : (if (t : Int) = 0 then A.2.2.1.1 else A.2.2.1.2) with
    | none =>
      rw [hS, Option.isSome_none] at hs1
      refine MR_id hM fun Q => ?_
      simp (disch := first | exact cat_i _ | exact cat_r _ | exact cat_n | omega) only [u184_0, u184_1, u184_2, u184_3, u184_6, u184_9, u184_11, u184_12, u184_13, u184_16, u184_17, u184_18, u184_21, u184_23, e184, hT_102, hT_106, hR_102_4, c113, zI_dt hd, hs1, if_pos, if_neg, ↓reduceIte, false_and, and_false, false_or, or_false, ite_not, decide_true, decide_false, Bool.true_eq_false, Bool.false_eq_true, decide_eq_true_eq, decide_eq_false_iff_not, hp_I, hp_sI, hp_N, ev_k_s, ev_k_n, true_and, and_true, true_or, or_true, not_true_eq_false, not_false_eq_true, if_true, if_false, ite_self, Option.some.injEq, exists_eq_left', nb_0, nb_1, nb_z, zI_t, zI_f, zI_e, cat_i, cat_r, cat_n, iI_add, iI_sub, iI_mul, iI_neg, iI_lt, iI_le, iI_eq, iI_idx, iI_inT, iI_ne0, ite_false, ite_true, iN_0, iN_1, Int.reduceAdd, Int.reduceSub, Int.reduceMul, Int.reduceNeg, Int.reduceDiv, Int.reduceMod, Int.reduceEq, Int.reduceLT, Int.reduceLE, Int.reduceToNat, Nat.reduceAdd, Nat.reduceSub, Nat.reduceMul, Nat.reduceLT, Nat.reduceLeDiff, Nat.reduceEqDiff, Int.cast_ofNat_Int, Std.le_refl, and_self, Int.toNat_natCast, Int.toNat_zero, Nat.le_refl]
    | some S =>
      rw [hS, Option.isSome_some] at hs1
      obtain ⟨r1, r2⟩ := hs2 S hS
      obtain ⟨G, g1, g2, g3, g4⟩ := mchg (L := L) (σ := σ) hM hA
      have lp := fun Q : Option Value → fb_H → Prop => lf0 (fun (B : Nat → Nat → Int32) (k : Nat) => ev_w 184 30 [.ref 102, .int (iI (t : Int)), .int (iI (k : Int))] [] (hp L σ B) Q) (fun B k => fb_u2 B 103 k (I 105 (64 * t + k))) (fun B k => (∀ i q, i ≠ 103 → B i q = G i q) ∧ ∀ q, q < k → B 103 q = I 105 (64 * t + q)) 64 (fun B k hk hp' => by
        obtain ⟨p1, p2⟩ := hp'
        refine ⟨⟨fun i q a => (u2_ne (by omega)).trans (p1 i q a), fun q hq => ?_⟩, ?_⟩
        · by_cases e : q = k
          · subst e; exact u2_eq
          · rw [u2_ne (by omega)]; exact p2 q (by omega)
        · show ev_w 184 30 [.ref 102, .int (iI (t : Int)), .int (iI (k : Int))] [] (hp L σ B) Q = _
          have g1 : B 105 (64 * t + k) = I 105 (64 * t + k) := (p1 _ _ (by omega)).trans (g3 _ _ (by omega) (by omega))
          have g2 : (64 * (t : Int) + (k : Int)).toNat = 64 * t + k := by omega
          rw [u184_30]
          simp (disch := first | exact cat_i _ | exact cat_r _ | exact cat_n | omega) only [u184_31, u184_33, u184_36, u184_37, u184_40, u184_41, u184_42, u184_45, u184_47, u184_48, u184_49, u184_50, u184_51, u184_52, u184_53, u184_56, hT_102, hT_103, hT_105, hR_102_0, hR_102_3, g1, g2, if_pos, if_neg, ↓reduceIte, false_and, and_false, false_or, or_false, ite_not, decide_true, decide_false, Bool.true_eq_false, Bool.false_eq_true, decide_eq_true_eq, decide_eq_false_iff_not, hp_I, hp_sI, hp_N, ev_k_s, ev_k_n, true_and, and_true, true_or, or_true, not_true_eq_false, not_false_eq_true, if_true, if_false, ite_self, Option.some.injEq, exists_eq_left', nb_0, nb_1, nb_z, zI_t, zI_f, zI_e, cat_i, cat_r, cat_n, iI_add, iI_sub, iI_mul, iI_neg, iI_lt, iI_le, iI_eq, iI_idx, iI_inT, iI_ne0, ite_false, ite_true, iN_0, iN_1, Int.reduceAdd, Int.reduceSub, Int.reduceMul, Int.reduceNeg, Int.reduceDiv, Int.reduceMod, Int.reduceEq, Int.reduceLT, Int.reduceLE, Int.reduceToNat, Nat.reduceAdd, Nat.reduceSub, Nat.reduceMul, Nat.reduceLT, Nat.reduceLeDiff, Nat.reduceEqDiff, Int.cast_ofNat_Int, Std.le_refl, and_self, Int.toNat_natCast, Int.toNat_zero, Nat.le_refl]
          all_goals rfl) G ⟨fun i q a => rfl, fun q h => absurd h (Nat.not_lt_zero q)⟩
      generalize hJ : (List.range 64).foldl (fun B k => fb_u2 B 103 k (I 105 (64 * t + k))) G = J at lp
      obtain ⟨j1, j2⟩ := (lp (fun _ _ => True)).2
      have hRS : RepS J 103 0 S := RepS_cp r1 r2.2.2.2.1 fun j hj => by rw [Nat.zero_add]; exact j2 j hj
      obtain ⟨q1, q2⟩ := g4 J S hRS (fun i q a b => j1 i q a)
      have hJ0 := hRS.1
      refine ⟨J, fun Q => ?_, q1, q2⟩
      have l1 := (lp Q).1
      clear lp hJ
      simp (disch := first | exact cat_i _ | exact cat_r _ | exact cat_n | omega) only [u184_0, u184_1, u184_2, u184_3, u184_6, u184_9, u184_11, u184_12, u184_13, u184_16, u184_17, u184_18, u184_21, u184_23, u184_24, u184_25, u184_28, u184_29, e184, hT_102, hT_106, hR_102_4, c113, zI_dt hd, hs1, g1, if_pos, if_neg, ↓reduceIte, false_and, and_false, false_or, or_false, ite_not, decide_true, decide_false, Bool.true_eq_false, Bool.false_eq_true, decide_eq_true_eq, decide_eq_false_iff_not, hp_I, hp_sI, hp_N, ev_k_s, ev_k_n, true_and, and_true, true_or, or_true, not_true_eq_false, not_false_eq_true, if_true, if_false, ite_self, Option.some.injEq, exists_eq_left', nb_0, nb_1, nb_z, zI_t, zI_f, zI_e, cat_i, cat_r, cat_n, iI_add, iI_sub, iI_mul, iI_neg, iI_lt, iI_le, iI_eq, iI_idx, iI_inT, iI_ne0, ite_false, ite_true, iN_0, iN_1, Int.reduceAdd, Int.reduceSub, Int.reduceMul, Int.reduceNeg, Int.reduceDiv, Int.reduceMod, Int.reduceEq, Int.reduceLT, Int.reduceLE, Int.reduceToNat, Nat.reduceAdd, Nat.reduceSub, Nat.reduceMul, Nat.reduceLT, Nat.reduceLeDiff, Nat.reduceEqDiff, Int.cast_ofNat_Int, Std.le_refl, and_self, Int.toNat_natCast, Int.toNat_zero, Nat.le_refl]
      refine Eq.trans l1 ?_
      simp (disch := first | exact cat_i _ | exact cat_r _ | exact cat_n | omega) only [u184_30, u184_31, u184_33, u184_59, u184_60, u184_63, u184_64, u184_65, hT_102, hT_103, hR_102_0, hJ0, Int.cast_ofNat_Int, if_pos, if_neg, ↓reduceIte, false_and, and_false, false_or, or_false, ite_not, decide_true, decide_false, Bool.true_eq_false, Bool.false_eq_true, decide_eq_true_eq, decide_eq_false_iff_not, hp_I, hp_sI, hp_N, ev_k_s, ev_k_n, true_and, and_true, true_or, or_true, not_true_eq_false, not_false_eq_true, if_true, if_false, ite_self, Option.some.injEq, exists_eq_left', nb_0, nb_1, nb_z, zI_t, zI_f, zI_e, cat_i, cat_r, cat_n, iI_add, iI_sub, iI_mul, iI_neg, iI_lt, iI_le, iI_eq, iI_idx, iI_inT, iI_ne0, ite_false, ite_true, iN_0, iN_1, Int.reduceAdd, Int.reduceSub, Int.reduceMul, Int.reduceNeg, Int.reduceDiv, Int.reduceMod, Int.reduceEq, Int.reduceLT, Int.reduceLE, Int.reduceToNat, Nat.reduceAdd, Nat.reduceSub, Nat.reduceMul, Nat.reduceLT, Nat.reduceLeDiff, Nat.reduceEqDiff, Int.cast_ofNat_Int, Std.le_refl, and_self, Int.toNat_natCast, Int.toNat_zero, Nat.le_refl]
  · rw [if_pos hh]
    have hd : ¬ (0 ≤ x ∧ x ≤ 1) := by omega
    refine MR_id hM fun Q => ?_
    simp (disch := first | exact cat_i _ | exact cat_r _ | exact cat_n | omega) only [u184_0, u184_1, u184_2, u184_3, u184_6, u184_9, u184_11, e184, hT_102, c113, zI_df hd, if_pos, if_neg, ↓reduceIte, false_and, and_false, false_or, or_false, ite_not, decide_true, decide_false, Bool.true_eq_false, Bool.false_eq_true, decide_eq_true_eq, decide_eq_false_iff_not, hp_I, hp_sI, hp_N, ev_k_s, ev_k_n, true_and, and_true, true_or, or_true, not_true_eq_false, not_false_eq_true, if_true, if_false, ite_self, Option.some.injEq, exists_eq_left', nb_0, nb_1, nb_z, zI_t, zI_f, zI_e, cat_i, cat_r, cat_n, iI_add, iI_sub, iI_mul, iI_neg, iI_lt, iI_le, iI_eq, iI_idx, iI_inT, iI_ne0, ite_false, ite_true, iN_0, iN_1, Int.reduceAdd, Int.reduceSub, Int.reduceMul, Int.reduceNeg, Int.reduceDiv, Int.reduceMod, Int.reduceEq, Int.reduceLT, Int.reduceLE, Int.reduceToNat, Nat.reduceAdd, Nat.reduceSub, Nat.reduceMul, Nat.reduceLT, Nat.reduceLeDiff, Nat.reduceEqDiff, Int.cast_ofNat_Int, Std.le_refl, and_self, Int.toNat_natCast, Int.toNat_zero, Nat.le_refl]
end MX
