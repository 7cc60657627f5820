section MTZ
variable {L : Nat} {σ : Nat → Nat} {I J K : Nat → Nat → Int32} {Q : Option Value → fb_H → Prop} {h : fb_H} {x y z : Int} {p c n : Nat} {T : List Nat} {A : AS} {S : Co}
/-- sets, cell by cell -/
theorem c154r (hn : n < 10) (v : Nat × Nat × Nat) : ∃ K, (∀ Q : Option Value → fb_H → Prop, ev_c 154 [.ref 102, .int (iI (n : Int)), .int (iI (v.1 : Int)), .int (iI (v.2.1 : Int)), .int (iI (v.2.2 : Int))] (hp L σ I) Q = Q none (hp L σ K)) ∧ (K 103 (1 + 6 * n + 2) = iI 1 ∧ K 103 (1 + 6 * n + 3) = iI (v.1 : Int) ∧ K 103 (1 + 6 * n + 4) = iI (v.2.1 : Int) ∧ K 103 (1 + 6 * n + 5) = iI (v.2.2 : Int)) ∧ ∀ i q, ¬ (i = 103 ∧ 1 + 6 * n + 2 ≤ q ∧ q < 1 + 6 * n + 6) → K i q = I i q := by
  have f1 : (1 + 6 * (n : Int) + 2).toNat = 1 + 6 * n + 2 := by omega
  have f2 : (1 + 6 * (n : Int) + 3).toNat = 1 + 6 * n + 3 := by omega
  have f3 : (1 + 6 * (n : Int) + 3 + 1).toNat = 1 + 6 * n + 4 := by omega
  have f4 : (1 + 6 * (n : Int) + 3 + 2).toNat = 1 + 6 * n + 5 := by omega
  refine ⟨fb_u2 (fb_u2 (fb_u2 (fb_u2 I 103 (1 + 6 * n + 2) (iI 1)) 103 (1 + 6 * n + 3) (iI (v.1 : Int))) 103 (1 + 6 * n + 4) (iI (v.2.1 : Int))) 103 (1 + 6 * n + 5) (iI (v.2.2 : Int)), fun Q => ?_, ⟨?_, ?_, ?_, u2_eq⟩, fun i q a => ?_⟩
  · simp (disch := first | exact cat_i _ | exact cat_r _ | exact cat_n | omega) only [e154, u154_0, u154_1, u154_3, u154_4, u154_5, u154_6, u154_8, u154_9, u154_12, u154_14, u154_15, u154_16, u154_17, u154_18, u154_19, u154_22, u154_24, u154_25, u154_26, u154_27, u154_28, u154_29, u154_32, u154_34, u154_35, u154_36, u154_37, u154_38, u154_39, u154_40, u154_41, u154_44, u154_46, u154_47, u154_48, u154_49, u154_50, u154_52, u154_53, hT_102, hT_103, hR_102_0, f1, f2, f3, f4, if_pos, if_neg, ↓reduceIte, false_and, and_false, false_or, or_false, ite_not, decide_true, decide_false, Bool.true_eq_false, Bool.false_eq_true, decide_eq_true_eq, decide_eq_false_iff_not, hp_I, hp_sI, hp_N, ev_k_s, ev_k_n, true_and, and_true, true_or, or_true, not_true_eq_false, not_false_eq_true, if_true, if_false, ite_self, Option.some.injEq, exists_eq_left', nb_0, nb_1, nb_z, zI_t, zI_f, zI_e, cat_i, cat_r, cat_n, iI_add, iI_sub, iI_mul, iI_neg, iI_lt, iI_le, iI_eq, iI_idx, iI_inT, iI_ne0, ite_false, ite_true, iN_0, iN_1, Int.reduceAdd, Int.reduceSub, Int.reduceMul, Int.reduceNeg, Int.reduceDiv, Int.reduceMod, Int.reduceEq, Int.reduceLT, Int.reduceLE, Int.reduceToNat, Nat.reduceAdd, Nat.reduceSub, Nat.reduceMul, Nat.reduceLT, Nat.reduceLeDiff, Nat.reduceEqDiff, Int.cast_ofNat_Int, Std.le_refl, and_self, Int.toNat_natCast, Int.toNat_zero, Nat.le_refl]
  · rw [u2_ne (by omega), u2_ne (by omega), u2_ne (by omega), u2_eq]
  · rw [u2_ne (by omega), u2_ne (by omega), u2_eq]
  · rw [u2_ne (by omega), u2_eq]
  · rw [u2_ne (by omega), u2_ne (by omega), u2_ne (by omega), u2_ne (by omega)]
theorem c172s {b e : Nat} (hY : RepY I T) (hT : TV T) (hr : rdN T p = some (b, e)) : ev_c 172 [.ref 102, .int (iI (p : Int))] (hp L σ I) Q = Q (some (.int (iI (e : Int)))) (hp L σ I) := by
  have h80 := hT.1
  have hle := rdN_le hr
  have n1 := c172 (L := L) (σ := σ) (Q := Q) hY hT (show p < 900 by omega)
  unfold rsN at n1
  rw [hr] at n1
  exact n1
theorem c180b {b f e0 e1 e : Nat} {xc : Ch} (hY : RepY I T) (hT : TV T) (hn : n < 10) (hN : rdN T p = some (b, e0)) (he1 : e1 ≤ T.length) (hE : rdE T b f e1 = .inr (xc, e)) : ∃ K, CC K (1 + 6 * n) xc ∧ (∀ i q, ¬ (i = 103 ∧ 1 + 6 * n ≤ q ∧ q < 1 + 6 * n + 6) → K i q = I i q) ∧ ∀ Q : Option Value → fb_H → Prop, ev_w 180 54 [.ref 102, .int (iI (n : Int)), .int (iI (p : Int)), .int (iI (e1 : Int)), .int (iI (f : Int)), .null, .null] [] (hp L σ I) Q = Q none (hp L σ K) := by
  have h80 := hT.1
  have e178 := fun Q => c178 (L := L) (σ := σ) (Q := Q) hY hT hN
  obtain ⟨G, g1, ⟨g2, g3, g4⟩, g5⟩ := c150 (L := L) (σ := σ) (I := I) hn (y := iI (b : Int)) (z := iI (f : Int))
  have hYG : RepY G T := RepY_o hY (g5 _ _ (by omega)) fun q => g5 _ _ (by omega)
  have s1 := fun Q => c170 (L := L) (σ := σ) (Q := Q) hYG hT (show e1 < 1000 by omega)
  have hb := sgM_in hT e1
  obtain ⟨hb1, hb2⟩ := hb
  have he3 := sgM_eq (T := T) (p := e1) (c := 61) (by omega)
  simp only [Int.cast_ofNat_Int] at he3
  unfold rdE at hE
  by_cases q : sgn T e1 = 61
  · have q' : sgM T e1 = 61 := by rw [he3]; exact q
    rw [if_pos q] at hE
    cases hv : rdV T (e1 + 1) with
    | inl w => rw [hv] at hE; cases hE
    | inr v =>
      rw [hv] at hE
      cases hE
      unfold rdV at hv
      cases q1 : rdN T (e1 + 1) with
      | none => rw [q1] at hv; cases hv
      | some x1 =>
        rw [q1] at hv
        dsimp only at hv
        split at hv
        · cases q2 : rdN T (x1.2 + 1) with
          | none => rw [q2] at hv; cases hv
          | some x2 =>
            rw [q2] at hv
            dsimp only at hv
            split at hv
            · cases q3 : rdN T (x2.2 + 1) with
              | none => rw [q3] at hv; cases hv
              | some x3 =>
                rw [q3] at hv
                cases hv
                obtain ⟨t, a1⟩ := x1
                obtain ⟨al, a2⟩ := x2
                obtain ⟨so, a3⟩ := x3
                dsimp only at q1 q2 q3
                have l1 := rdN_le q1
                have l2 := rdN_le q2
                have l3 := rdN_le q3
                dsimp only at l1 l2 l3
                obtain ⟨K, k1, ⟨k2, k3, k4, k5⟩, k6⟩ := c154r (L := L) (σ := σ) (I := G) hn (t, al, so)
                have p1 : ((e1 + 1 : Nat) : Int) = (e1 : Int) + 1 := by omega
                have p2 : ((a1 + 1 : Nat) : Int) = (a1 : Int) + 1 := by omega
                have p3 : ((a2 + 1 : Nat) : Int) = (a2 : Int) + 1 := by omega
                have n1 := fun Q => c172s (L := L) (σ := σ) (Q := Q) hYG hT q1
                have n2 := fun Q => c172s (L := L) (σ := σ) (Q := Q) hYG hT q2
                have m1 := fun Q => c178 (L := L) (σ := σ) (Q := Q) hYG hT q1
                have m2 := fun Q => c178 (L := L) (σ := σ) (Q := Q) hYG hT q2
                have m3 := fun Q => c178 (L := L) (σ := σ) (Q := Q) hYG hT q3
                rw [p1] at n1 m1
                rw [p2] at n2 m2
                rw [p3] at m3
                dsimp only at k1
                refine ⟨K, ⟨(k6 _ _ (by omega)).trans g2, (k6 _ _ (by omega)).trans g3, k2, fun v' ev' => ?_⟩, fun i q a => (k6 i q (by omega)).trans (g5 i q a), fun Q => ?_⟩
                · cases ev'; exact ⟨k3, k4, k5⟩
                · simp (disch := first | exact cat_i _ | exact cat_r _ | exact cat_n | omega) only [u180_54, u180_55, u180_56, u180_57, u180_58, u180_61, u180_63, u180_66, u180_67, u180_68, u180_71, u180_73, u180_76, u180_77, u180_78, u180_79, u180_80, u180_83, u180_84, u180_85, u180_87, u180_88, u180_90, u180_93, u180_94, u180_95, u180_97, u180_98, u180_99, u180_100, u180_101, u180_102, u180_103, u180_106, u180_107, u180_109, u180_112, u180_113, u180_115, u180_118, u180_121, hT_102, e178, g1, s1, q', n1, n2, m1, m2, m3, k1, if_pos, if_neg, ↓reduceIte, false_and, and_false, false_or, or_false, ite_not, decide_true, decide_false, Bool.true_eq_false, Bool.false_eq_true, decide_eq_true_eq, decide_eq_false_iff_not, hp_I, hp_sI, hp_N, ev_k_s, ev_k_n, true_and, and_true, true_or, or_true, not_true_eq_false, not_false_eq_true, if_true, if_false, ite_self, Option.some.injEq, exists_eq_left', nb_0, nb_1, nb_z, zI_t, zI_f, zI_e, cat_i, cat_r, cat_n, iI_add, iI_sub, iI_mul, iI_neg, iI_lt, iI_le, iI_eq, iI_idx, iI_inT, iI_ne0, ite_false, ite_true, iN_0, iN_1, Int.reduceAdd, Int.reduceSub, Int.reduceMul, Int.reduceNeg, Int.reduceDiv, Int.reduceMod, Int.reduceEq, Int.reduceLT, Int.reduceLE, Int.reduceToNat, Nat.reduceAdd, Nat.reduceSub, Nat.reduceMul, Nat.reduceLT, Nat.reduceLeDiff, Nat.reduceEqDiff, Int.cast_ofNat_Int, Std.le_refl, and_self, Int.toNat_natCast, Int.toNat_zero, Nat.le_refl]
            · cases hv
        · cases hv
  · have q' : ¬ sgM T e1 = 61 := by rw [he3]; exact q
    rw [if_neg q] at hE
    cases hE
    refine ⟨G, ⟨g2, g3, g4, fun v e => by cases e⟩, g5, fun Q => ?_⟩
    simp (disch := first | exact cat_i _ | exact cat_r _ | exact cat_n | omega) only [u180_54, u180_55, u180_56, u180_57, u180_58, u180_61, u180_63, u180_66, u180_67, u180_68, u180_71, u180_73, u180_76, u180_77, u180_78, u180_79, u180_80, u180_83, u180_84, u180_85, u180_87, u180_88, u180_90, u180_93, u180_94, u180_95, u180_97, u180_98, u180_99, u180_100, u180_101, u180_102, u180_103, u180_106, u180_107, u180_109, u180_112, u180_113, u180_115, u180_118, u180_121, hT_102, e178, g1, s1, if_pos, if_neg, ↓reduceIte, false_and, and_false, false_or, or_false, ite_not, decide_true, decide_false, Bool.true_eq_false, Bool.false_eq_true, decide_eq_true_eq, decide_eq_false_iff_not, hp_I, hp_sI, hp_N, ev_k_s, ev_k_n, true_and, and_true, true_or, or_true, not_true_eq_false, not_false_eq_true, if_true, if_false, ite_self, Option.some.injEq, exists_eq_left', nb_0, nb_1, nb_z, zI_t, zI_f, zI_e, cat_i, cat_r, cat_n, iI_add, iI_sub, iI_mul, iI_neg, iI_lt, iI_le, iI_eq, iI_idx, iI_inT, iI_ne0, ite_false, ite_true, iN_0, iN_1, Int.reduceAdd, Int.reduceSub, Int.reduceMul, Int.reduceNeg, Int.reduceDiv, Int.reduceMod, Int.reduceEq, Int.reduceLT, Int.reduceLE, Int.reduceToNat, Nat.reduceAdd, Nat.reduceSub, Nat.reduceMul, Nat.reduceLT, Nat.reduceLeDiff, Nat.reduceEqDiff, Int.cast_ofNat_Int, Std.le_refl, and_self, Int.toNat_natCast, Int.toNat_zero, Nat.le_refl]
/-- reads -/
theorem c180 {e : Nat} {xc : Ch} (hY : RepY I T) (hT : TV T) (hn : n < 10) (hC : rdC T p = .inr (xc, e)) : ∃ K, CC K (1 + 6 * n) xc ∧ (∀ i q, ¬ (i = 103 ∧ 1 + 6 * n ≤ q ∧ q < 1 + 6 * n + 6) → K i q = I i q) ∧ ∀ Q : Option Value → fb_H → Prop, ev_c 180 [.ref 102, .int (iI (n : Int)), .int (iI (p : Int))] (hp L σ I) Q = Q none (hp L σ K) := by
  have h80 := hT.1
  unfold rdC at hC
  cases q1 : rdN T p with
  | none => rw [q1] at hC; cases hC
  | some b0 =>
    rw [q1] at hC
    obtain ⟨b, e0⟩ := b0
    have i2 := rdN_le q1
    dsimp only at hC i2
    have n1 := fun Q => c172s (L := L) (σ := σ) (Q := Q) hY hT q1
    have s1 := fun Q => c170 (L := L) (σ := σ) (Q := Q) hY hT (show e0 < 1000 by omega)
    have hb := sgM_in hT e0
    obtain ⟨hb1, hb2⟩ := hb
    have he3 := sgM_eq (T := T) (p := e0) (c := 47) (by omega)
    simp only [Int.cast_ofNat_Int] at he3
    by_cases q : sgn T e0 = 47
    · have q' : sgM T e0 = 47 := by rw [he3]; exact q
      rw [if_pos q] at hC
      cases q2 : rdF T (e0 + 1) with
      | none => rw [q2] at hC; cases hC
      | some g =>
        rw [q2] at hC
        obtain ⟨f, e1⟩ := g
        have i3 := rdF_le q2
        dsimp only at hC i3
        obtain ⟨K, k1, k2, k3⟩ := c180b (L := L) (σ := σ) (n := n) hY hT hn q1 i3 hC
        refine ⟨K, k1, k2, fun Q => Eq.trans ?_ (k3 Q)⟩
        have f1 := fun Q => c174 (L := L) (σ := σ) (Q := Q) hY hT (p := e0 + 1) (by omega)
        have d1 := fun Q => c171 (L := L) (σ := σ) (Q := Q) hY hT (p := e0 + 1) (by omega)
        have ep : ((e0 + 1 : Nat) : Int) = (e0 : Int) + 1 := by omega
        rw [ep] at f1 d1
        unfold rsF at f1
        rw [q2] at f1
        dsimp only at f1
        have hfe : (f = 64 ∧ (e1 : Int) = (e0 : Int) + 3) ∨ (¬ (e1 : Int) = (e0 : Int) + 3 ∧ dgM T (e0 + 1) = (f : Int)) := by
          unfold rdF at q2
          unfold dgM
          by_cases r5 : sgn T (e0 + 1) = 53
          · rw [if_pos r5] at q2
            cases q2
            exact Or.inr ⟨by omega, by rw [if_pos (dg_i.mpr (by omega)), r5]; rfl⟩
          · rw [if_neg r5] at q2
            by_cases r7 : sgn T (e0 + 1) = 55
            · rw [if_pos r7] at q2
              cases q2
              exact Or.inr ⟨by omega, by rw [if_pos (dg_i.mpr (by omega)), r7]; rfl⟩
            · rw [if_neg r7] at q2
              by_cases r6 : sgn T (e0 + 1) = 54
              · rw [if_pos r6] at q2
                by_cases r4 : sgn T (e0 + 1 + 1) = 52
                · rw [if_pos r4] at q2
                  cases q2
                  exact Or.inl ⟨rfl, by omega⟩
                · rw [if_neg r4] at q2
                  cases q2
                  exact Or.inr ⟨by omega, by rw [if_pos (dg_i.mpr (by omega)), r6]; rfl⟩
              · rw [if_neg r6] at q2
                cases q2
        rcases hfe with ⟨h1, h2⟩ | ⟨h1, h2⟩
        · subst h1
          simp (disch := first | exact cat_i _ | exact cat_r _ | exact cat_n | omega) only [u180_0, u180_1, u180_2, u180_5, u180_6, u180_7, u180_9, u180_10, u180_11, u180_14, u180_16, u180_19, u180_20, u180_21, u180_22, u180_23, u180_26, u180_27, u180_28, u180_29, u180_32, u180_34, u180_37, u180_38, u180_39, u180_40, u180_41, u180_44, u180_46, u180_47, u180_48, u180_49, u180_50, u180_53, e180, hT_102, n1, s1, q', f1, h2, Int.cast_ofNat_Int, if_pos, if_neg, ↓reduceIte, false_and, and_false, false_or, or_false, ite_not, decide_true, decide_false, Bool.true_eq_false, Bool.false_eq_true, decide_eq_true_eq, decide_eq_false_iff_not, hp_I, hp_sI, hp_N, ev_k_s, ev_k_n, true_and, and_true, true_or, or_true, not_true_eq_false, not_false_eq_true, if_true, if_false, ite_self, Option.some.injEq, exists_eq_left', nb_0, nb_1, nb_z, zI_t, zI_f, zI_e, cat_i, cat_r, cat_n, iI_add, iI_sub, iI_mul, iI_neg, iI_lt, iI_le, iI_eq, iI_idx, iI_inT, iI_ne0, ite_false, ite_true, iN_0, iN_1, Int.reduceAdd, Int.reduceSub, Int.reduceMul, Int.reduceNeg, Int.reduceDiv, Int.reduceMod, Int.reduceEq, Int.reduceLT, Int.reduceLE, Int.reduceToNat, Nat.reduceAdd, Nat.reduceSub, Nat.reduceMul, Nat.reduceLT, Nat.reduceLeDiff, Nat.reduceEqDiff, Int.cast_ofNat_Int, Std.le_refl, and_self, Int.toNat_natCast, Int.toNat_zero, Nat.le_refl]
        · rw [h2] at d1
          simp (disch := first | exact cat_i _ | exact cat_r _ | exact cat_n | omega) only [u180_0, u180_1, u180_2, u180_5, u180_6, u180_7, u180_9, u180_10, u180_11, u180_14, u180_16, u180_19, u180_20, u180_21, u180_22, u180_23, u180_26, u180_27, u180_28, u180_29, u180_32, u180_34, u180_37, u180_38, u180_39, u180_40, u180_41, u180_44, u180_46, u180_47, u180_48, u180_49, u180_50, u180_53, e180, hT_102, n1, s1, q', f1, d1, if_pos, if_neg, ↓reduceIte, false_and, and_false, false_or, or_false, ite_not, decide_true, decide_false, Bool.true_eq_false, Bool.false_eq_true, decide_eq_true_eq, decide_eq_false_iff_not, hp_I, hp_sI, hp_N, ev_k_s, ev_k_n, true_and, and_true, true_or, or_true, not_true_eq_false, not_false_eq_true, if_true, if_false, ite_self, Option.some.injEq, exists_eq_left', nb_0, nb_1, nb_z, zI_t, zI_f, zI_e, cat_i, cat_r, cat_n, iI_add, iI_sub, iI_mul, iI_neg, iI_lt, iI_le, iI_eq, iI_idx, iI_inT, iI_ne0, ite_false, ite_true, iN_0, iN_1, Int.reduceAdd, Int.reduceSub, Int.reduceMul, Int.reduceNeg, Int.reduceDiv, Int.reduceMod, Int.reduceEq, Int.reduceLT, Int.reduceLE, Int.reduceToNat, Nat.reduceAdd, Nat.reduceSub, Nat.reduceMul, Nat.reduceLT, Nat.reduceLeDiff, Nat.reduceEqDiff, Int.cast_ofNat_Int, Std.le_refl, and_self, Int.toNat_natCast, Int.toNat_zero, Nat.le_refl]
    · have q' : ¬ sgM T e0 = 47 := by rw [he3]; exact q
      rw [if_neg q] at hC
      obtain ⟨K, k1, k2, k3⟩ := c180b (L := L) (σ := σ) (n := n) hY hT hn q1 i2.2 hC
      refine ⟨K, k1, k2, fun Q => Eq.trans ?_ (k3 Q)⟩
      simp (disch := first | exact cat_i _ | exact cat_r _ | exact cat_n | omega) only [u180_0, u180_1, u180_2, u180_5, u180_6, u180_7, u180_9, u180_10, u180_11, u180_14, u180_16, u180_19, u180_20, u180_21, u180_22, u180_23, u180_26, u180_27, u180_28, u180_29, u180_32, u180_34, u180_37, u180_38, u180_39, u180_40, u180_41, u180_44, u180_46, u180_47, u180_48, u180_49, u180_50, u180_53, e180, hT_102, n1, s1, Int.cast_ofNat_Int, if_pos, if_neg, ↓reduceIte, false_and, and_false, false_or, or_false, ite_not, decide_true, decide_false, Bool.true_eq_false, Bool.false_eq_true, decide_eq_true_eq, decide_eq_false_iff_not, hp_I, hp_sI, hp_N, ev_k_s, ev_k_n, true_and, and_true, true_or, or_true, not_true_eq_false, not_false_eq_true, if_true, if_false, ite_self, Option.some.injEq, exists_eq_left', nb_0, nb_1, nb_z, zI_t, zI_f, zI_e, cat_i, cat_r, cat_n, iI_add, iI_sub, iI_mul, iI_neg, iI_lt, iI_le, iI_eq, iI_idx, iI_inT, iI_ne0, ite_false, ite_true, iN_0, iN_1, Int.reduceAdd, Int.reduceSub, Int.reduceMul, Int.reduceNeg, Int.reduceDiv, Int.reduceMod, Int.reduceEq, Int.reduceLT, Int.reduceLE, Int.reduceToNat, Nat.reduceAdd, Nat.reduceSub, Nat.reduceMul, Nat.reduceLT, Nat.reduceLeDiff, Nat.reduceEqDiff, Int.cast_ofNat_Int, Std.le_refl, and_self, Int.toNat_natCast, Int.toNat_zero, Nat.le_refl]
/-- read -/
theorem m181 (hM : RepM I A) (hA : AV A) : MR L σ I 181 [.ref 102] (opRead A) := by
  obtain ⟨m1, m2, m3, hY⟩ := id hM
  have hT : TV A.2.2.2 := hA.2.2.2
  have h80 := hT.1
  have e177 := fun Q => c177 (L := L) (σ := σ) (Q := Q) hY hT
  unfold opRead
  cases hr : rdT A.2.2.2 with
  | inl g =>
    have hg := rdT_f h80 hr
    rw [hr] at e177
    simp only [rdI] at e177
    refine MR_id hM fun Q => ?_
    simp (disch := first | exact cat_i _ | exact cat_r _ | exact cat_n | omega) only [u181_0, u181_1, u181_4, u181_6, u181_9, u181_11, e181, hT_102, e177, if_pos, if_neg, ↓reduceIte, false_and, and_false, false_or, or_false, ite_not, decide_true, decide_false, Bool.true_eq_false, Bool.false_eq_true, decide_eq_true_eq, decide_eq_false_iff_not, hp_I, hp_sI, hp_N, ev_k_s, ev_k_n, true_and, and_true, true_or, or_true, not_true_eq_false, not_false_eq_true, if_true, if_false, ite_self, Option.some.injEq, exists_eq_left', nb_0, nb_1, nb_z, zI_t, zI_f, zI_e, cat_i, cat_r, cat_n, iI_add, iI_sub, iI_mul, iI_neg, iI_lt, iI_le, iI_eq, iI_idx, iI_inT, iI_ne0, ite_false, ite_true, iN_0, iN_1, Int.reduceAdd, Int.reduceSub, Int.reduceMul, Int.reduceNeg, Int.reduceDiv, Int.reduceMod, Int.reduceEq, Int.reduceLT, Int.reduceLE, Int.reduceToNat, Nat.reduceAdd, Nat.reduceSub, Nat.reduceMul, Nat.reduceLT, Nat.reduceLeDiff, Nat.reduceEqDiff, Int.cast_ofNat_Int, Std.le_refl, and_self, Int.toNat_natCast, Int.toNat_zero, Nat.le_refl]
  | inr l =>
    rw [hr] at e177
    simp only [rdI] at e177
    have hlen := rdT_len hr
    have hPl : Pl A.2.2.2 l 0 := by
      rw [rdT_B] at hr
      obtain ⟨m, h1, h2⟩ := rdB_Pl 80 0 [] l (by omega) (by omega) hr
      rw [h1]
      exact h2
    have e0 := fun Q => c179 (L := L) (σ := σ) (Q := Q) hY hT (w := 0) (Or.inl rfl) hPl (by omega)
    have e1 := fun Q => c179 (L := L) (σ := σ) (Q := Q) hY hT (w := 1) (Or.inr rfl) hPl (by omega)
    rw [bads_0, Nat.zero_add] at e0
    simp only [Int.cast_ofNat_Int] at e0 e1
    dsimp only
    by_cases q : 10 < l.length
    · rw [if_pos q]
      refine MR_id hM fun Q => ?_
      simp (disch := first | exact cat_i _ | exact cat_r _ | exact cat_n | omega) only [u181_0, u181_1, u181_4, u181_6, u181_9, u181_11, u181_12, u181_13, u181_14, u181_17, u181_19, u181_22, u181_24, e181, hT_102, e177, e0, if_pos, if_neg, ↓reduceIte, false_and, and_false, false_or, or_false, ite_not, decide_true, decide_false, Bool.true_eq_false, Bool.false_eq_true, decide_eq_true_eq, decide_eq_false_iff_not, hp_I, hp_sI, hp_N, ev_k_s, ev_k_n, true_and, and_true, true_or, or_true, not_true_eq_false, not_false_eq_true, if_true, if_false, ite_self, Option.some.injEq, exists_eq_left', nb_0, nb_1, nb_z, zI_t, zI_f, zI_e, cat_i, cat_r, cat_n, iI_add, iI_sub, iI_mul, iI_neg, iI_lt, iI_le, iI_eq, iI_idx, iI_inT, iI_ne0, ite_false, ite_true, iN_0, iN_1, Int.reduceAdd, Int.reduceSub, Int.reduceMul, Int.reduceNeg, Int.reduceDiv, Int.reduceMod, Int.reduceEq, Int.reduceLT, Int.reduceLE, Int.reduceToNat, Nat.reduceAdd, Nat.reduceSub, Nat.reduceMul, Nat.reduceLT, Nat.reduceLeDiff, Nat.reduceEqDiff, Int.cast_ofNat_Int, Std.le_refl, and_self, Int.toNat_natCast, Int.toNat_zero, Nat.le_refl]
    · rw [if_neg q]
      obtain ⟨b1, b2⟩ := bads_1 l 0
      rw [← okB_i] at b2
      have hbl : bads 1 l 0 ≤ 81 := by
        have key : ∀ (l : List Ch) (n : Nat), bads 1 l n ≤ n + l.length := fun l => by
          induction l with
          | nil => intro n; exact Nat.le_refl _
          | cons x l ih =>
            intro n
            have := ih (n + bad 1 x)
            have hb : bad 1 x ≤ 1 := by unfold bad; split <;> omega
            show bads 1 l (n + bad 1 x) ≤ _
            rw [List.length_cons]
            omega
        have := key l 0
        omega
      generalize bads 1 l 0 = bd at *
      cases hb : okB l with
      | false =>
        rw [if_neg (by decide)]
        have hbd : 0 < bd := by
          by_cases z : bd = 0
          · rw [b2.mp z] at hb; cases hb
          · omega
        refine MR_id hM fun Q => ?_
        simp (disch := first | exact cat_i _ | exact cat_r _ | exact cat_n | omega) only [u181_0, u181_1, u181_4, u181_6, u181_9, u181_11, u181_12, u181_13, u181_14, u181_17, u181_19, u181_22, u181_24, u181_25, u181_26, u181_27, u181_30, u181_33, u181_35, e181, hT_102, e177, e0, e1, if_pos, if_neg, ↓reduceIte, false_and, and_false, false_or, or_false, ite_not, decide_true, decide_false, Bool.true_eq_false, Bool.false_eq_true, decide_eq_true_eq, decide_eq_false_iff_not, hp_I, hp_sI, hp_N, ev_k_s, ev_k_n, true_and, and_true, true_or, or_true, not_true_eq_false, not_false_eq_true, if_true, if_false, ite_self, Option.some.injEq, exists_eq_left', nb_0, nb_1, nb_z, zI_t, zI_f, zI_e, cat_i, cat_r, cat_n, iI_add, iI_sub, iI_mul, iI_neg, iI_lt, iI_le, iI_eq, iI_idx, iI_inT, iI_ne0, ite_false, ite_true, iN_0, iN_1, Int.reduceAdd, Int.reduceSub, Int.reduceMul, Int.reduceNeg, Int.reduceDiv, Int.reduceMod, Int.reduceEq, Int.reduceLT, Int.reduceLE, Int.reduceToNat, Nat.reduceAdd, Nat.reduceSub, Nat.reduceMul, Nat.reduceLT, Nat.reduceLeDiff, Nat.reduceEqDiff, Int.cast_ofNat_Int, Std.le_refl, and_self, Int.toNat_natCast, Int.toNat_zero, Nat.le_refl]
      | true =>
        rw [if_pos rfl]
        have hbd : bd = 0 := b2.mpr hb
        subst hbd
        simp only [Int.cast_ofNat_Int] at e1
        obtain ⟨J, j1, j2, j3, j4⟩ := mchg (L := L) (σ := σ) hM hA
        obtain ⟨s0, s1, s2, s3⟩ := RepS_0 j2
        have hYJ : RepY J A.2.2.2 := RepY_o hY (j3 _ _ (by omega) (by omega)) fun q => j3 _ _ (by omega) (by omega)
        obtain ⟨⟨K, p⟩, ⟨p1, p2, p3, p4, p5, p6⟩, e⟩ := lx (fun Q (a : (Nat → Nat → Int32) × Nat) (k : Nat) => ev_w 181 49 [.ref 102, .int (iI (a.2 : Int))] [] (hp L σ a.1) Q) (fun a k => Pl A.2.2.2 (l.drop k) a.2 ∧ a.2 ≤ A.2.2.2.length + 1 ∧ a.1 103 0 = iI (k : Int) ∧ (∀ c, c < k → CC a.1 (1 + 6 * c) (l.getD c (0, 0, none))) ∧ (∀ i q, i ≠ 103 → a.1 i q = J i q) ∧ ∀ q, 61 ≤ q → a.1 103 q = J 103 q) l.length (fun a k hk hp' => by
          obtain ⟨B, p⟩ := a
          obtain ⟨p1, p2, p3, p4, p5, p6⟩ := hp'
          dsimp only at p1 p2 p3 p4 p5 p6
          rw [List.drop_eq_getElem_cons hk] at p1
          obtain ⟨en, r1, r2⟩ := p1
          have hx := rdC_le r1
          dsimp only at hx
          have hYB : RepY B A.2.2.2 := RepY_o hYJ (p5 _ _ (by omega)) fun q => p5 _ _ (by omega)
          obtain ⟨C, c1, c2, c3⟩ := c180 (L := L) (σ := σ) (n := k) hYB hT (by omega) r1
          have hC0 : C 103 0 = iI (k : Int) := (c2 _ _ (by omega)).trans p3
          have hYC : RepY (fb_u2 C 103 0 (iI ((k : Int) + 1))) A.2.2.2 := RepY_o hYB ((u2_ne (by omega)).trans (c2 _ _ (by omega))) fun q => (u2_ne (by omega)).trans (c2 _ _ (by omega))
          have e176 := fun Q => c176 (L := L) (σ := σ) (Q := Q) hYC hT (show p < 100 by omega)
          unfold rsC at e176
          rw [r1] at e176
          dsimp only at e176
          have hlB := hYB.1
          have hgd : l.getD k (0, 0, none) = l[k] := by rw [List.getD_eq_getElem?_getD, List.getElem?_eq_getElem hk, Option.getD_some]
          refine ⟨(fb_u2 C 103 0 (iI ((k : Int) + 1)), en + 1), ⟨r2, by omega, (show fb_u2 C 103 0 (iI ((k : Int) + 1)) 103 0 = iI ((k : Int) + 1) from u2_eq), fun c hc => ?_, fun i q a => (u2_ne (by omega)).trans ((c2 _ _ (by omega)).trans (p5 i q a)), fun q a => (u2_ne (by omega)).trans ((c2 _ _ (by omega)).trans (p6 q a))⟩, fun Q => ?_⟩
          · by_cases z : c = k
            · subst z
              rw [hgd]
              exact CC_o c1 fun j hj => u2_ne (by omega)
            · exact CC_o (p4 c (by omega)) fun j hj => (u2_ne (by omega)).trans (c2 _ _ (by omega))
          · show ev_w 181 49 [.ref 102, .int (iI (p : Int))] [] (hp L σ B) Q = _
            rw [u181_49]
            simp (disch := first | exact cat_i _ | exact cat_r _ | exact cat_n | omega) only [u181_50, u181_51, u181_54, u181_57, u181_58, u181_59, u181_62, u181_63, u181_64, u181_65, u181_68, u181_69, u181_72, u181_73, u181_74, u181_75, u181_76, u181_77, u181_78, u181_79, u181_80, u181_83, u181_84, u181_85, u181_86, hT_102, hT_103, hR_102_0, hlB, p3, c3, hC0, e176, if_pos, if_neg, ↓reduceIte, false_and, and_false, false_or, or_false, ite_not, decide_true, decide_false, Bool.true_eq_false, Bool.false_eq_true, decide_eq_true_eq, decide_eq_false_iff_not, hp_I, hp_sI, hp_N, ev_k_s, ev_k_n, true_and, and_true, true_or, or_true, not_true_eq_false, not_false_eq_true, if_true, if_false, ite_self, Option.some.injEq, exists_eq_left', nb_0, nb_1, nb_z, zI_t, zI_f, zI_e, cat_i, cat_r, cat_n, iI_add, iI_sub, iI_mul, iI_neg, iI_lt, iI_le, iI_eq, iI_idx, iI_inT, iI_ne0, ite_false, ite_true, iN_0, iN_1, Int.reduceAdd, Int.reduceSub, Int.reduceMul, Int.reduceNeg, Int.reduceDiv, Int.reduceMod, Int.reduceEq, Int.reduceLT, Int.reduceLE, Int.reduceToNat, Nat.reduceAdd, Nat.reduceSub, Nat.reduceMul, Nat.reduceLT, Nat.reduceLeDiff, Nat.reduceEqDiff, Int.cast_ofNat_Int, Std.le_refl, and_self, Int.toNat_natCast, Int.toNat_zero, Nat.le_refl]
            all_goals rfl) l.length 0 (fb_u2 J 103 0 (iI 0), 0) (by omega) ⟨hPl, by show 0 ≤ A.2.2.2.length + 1; omega, (show fb_u2 J 103 0 (iI 0) 103 0 = iI 0 from u2_eq), fun c h => absurd h (Nat.not_lt_zero c), fun i q a => u2_ne (by omega), fun q a => u2_ne (by omega)⟩
        dsimp only at p1 p2 p3 p4 p5 p6
        rw [List.drop_length] at p1
        have hpl : A.2.2.2.length < p := p1
        have hRS : RepS K 103 0 (A.1.1, l) := RepS_mk p3 ((p6 _ (by omega)).trans s1) ((p6 _ (by omega)).trans s2) ((p6 _ (by omega)).trans s3) fun c hc => p4 c hc
        obtain ⟨r1, r2⟩ := j4 K (A.1.1, l) hRS (fun i q a b => p5 i q a)
        obtain ⟨t1, t2, t3, t4⟩ := r1
        have hlK : K 102 6 = iI (A.2.2.2.length : Int) := t4.1
        have hK0 : fb_u2 K 102 6 (iI 0) 103 0 = iI (l.length : Int) := (u2_ne (by omega)).trans p3
        refine ⟨fb_u2 K 102 6 (iI 0), fun Q => ?_, ⟨RepS_o t1 fun q => u2_ne (by omega), RepK_o t2 (u2_ne (by omega)) fun q => u2_ne (by omega), RepQ_o t3 (fun q => u2_ne (by omega)) fun q => u2_ne (by omega), ⟨u2_eq, fun k hk => absurd hk (Nat.not_lt_zero k)⟩⟩, fun i q a => (u2_ne (by omega)).trans (r2 i q a)⟩
        have e2 := e Q
        clear e
        simp only [Int.cast_ofNat_Int] at e2
        simp (disch := first | exact cat_i _ | exact cat_r _ | exact cat_n | omega) only [u181_0, u181_1, u181_4, u181_6, u181_9, u181_11, u181_12, u181_13, u181_14, u181_17, u181_19, u181_22, u181_24, u181_25, u181_26, u181_27, u181_30, u181_33, u181_35, u181_36, u181_37, u181_40, u181_41, u181_44, u181_45, u181_46, u181_47, u181_48, e181, hT_102, hT_103, hR_102_0, e177, e0, e1, j1, if_pos, if_neg, ↓reduceIte, false_and, and_false, false_or, or_false, ite_not, decide_true, decide_false, Bool.true_eq_false, Bool.false_eq_true, decide_eq_true_eq, decide_eq_false_iff_not, hp_I, hp_sI, hp_N, ev_k_s, ev_k_n, true_and, and_true, true_or, or_true, not_true_eq_false, not_false_eq_true, if_true, if_false, ite_self, Option.some.injEq, exists_eq_left', nb_0, nb_1, nb_z, zI_t, zI_f, zI_e, cat_i, cat_r, cat_n, iI_add, iI_sub, iI_mul, iI_neg, iI_lt, iI_le, iI_eq, iI_idx, iI_inT, iI_ne0, ite_false, ite_true, iN_0, iN_1, Int.reduceAdd, Int.reduceSub, Int.reduceMul, Int.reduceNeg, Int.reduceDiv, Int.reduceMod, Int.reduceEq, Int.reduceLT, Int.reduceLE, Int.reduceToNat, Nat.reduceAdd, Nat.reduceSub, Nat.reduceMul, Nat.reduceLT, Nat.reduceLeDiff, Nat.reduceEqDiff, Int.cast_ofNat_Int, Std.le_refl, and_self, Int.toNat_natCast, Int.toNat_zero, Nat.le_refl]
        refine Eq.trans e2 ?_
        clear e2
        simp (disch := first | exact cat_i _ | exact cat_r _ | exact cat_n | omega) only [u181_49, u181_50, u181_51, u181_54, u181_89, u181_90, u181_91, u181_94, u181_95, u181_98, u181_99, u181_100, hT_102, hT_103, hR_102_0, hlK, hK0, if_pos, if_neg, ↓reduceIte, false_and, and_false, false_or, or_false, ite_not, decide_true, decide_false, Bool.true_eq_false, Bool.false_eq_true, decide_eq_true_eq, decide_eq_false_iff_not, hp_I, hp_sI, hp_N, ev_k_s, ev_k_n, true_and, and_true, true_or, or_true, not_true_eq_false, not_false_eq_true, if_true, if_false, ite_self, Option.some.injEq, exists_eq_left', nb_0, nb_1, nb_z, zI_t, zI_f, zI_e, cat_i, cat_r, cat_n, iI_add, iI_sub, iI_mul, iI_neg, iI_lt, iI_le, iI_eq, iI_idx, iI_inT, iI_ne0, ite_false, ite_true, iN_0, iN_1, Int.reduceAdd, Int.reduceSub, Int.reduceMul, Int.reduceNeg, Int.reduceDiv, Int.reduceMod, Int.reduceEq, Int.reduceLT, Int.reduceLE, Int.reduceToNat, Nat.reduceAdd, Nat.reduceSub, Nat.reduceMul, Nat.reduceLT, Nat.reduceLeDiff, Nat.reduceEqDiff, Int.cast_ofNat_Int, Std.le_refl, and_self, Int.toNat_natCast, Int.toNat_zero, Nat.le_refl]
end MTZ
