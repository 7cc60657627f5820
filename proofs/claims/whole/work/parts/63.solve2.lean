section MK
variable {L : Nat} {σ : Nat → Nat} {I J : Nat → Nat → Int32} {Q : Option Value → fb_H → Prop} {h : fb_H} {x y z iv : Int} {S : Co} {n m a o b b' : Nat} {v w : Nat × Nat × Nat}
/-- the rows of a chord -/
theorem c144r {c : Nat} (hr : RepS J 103 0 S) (hVS : VS S) (hc : c < S.2.length) (hL : ∀ c, c < S.2.length → RepL J c (chl S c)) (hG : c + 1 < S.2.length → RowM S J (c + 1) (chl S (c + 1)).length) : ∃ K, RowM S K c (chl S c).length ∧ (∀ i q, i ≠ 108 → i ≠ 109 → ¬ (i = 112 ∧ 128 * c ≤ q ∧ q < 128 * c + 128) → K i q = J i q) ∧ ∀ Q : Option Value → fb_H → Prop, ev_w 144 19 [.ref 102, .int (iI (c : Int)), .int (iI 0)] [] (hp L σ J) Q = ev_w 144 13 [.ref 102, .int (iI ((c : Int) - 1)), .int (iI ((chl S c).length : Int))] [] (hp L σ K) Q := by
  have hl := hVS.2.2.2.1
  have h20 := (hL c hc).2.1
  obtain ⟨K, ⟨p1, p2⟩, e⟩ := lx (fun Q (A : Nat → Nat → Int32) (k : Nat) => ev_w 144 19 [.ref 102, .int (iI (c : Int)), .int (iI (k : Int))] [] (hp L σ A) Q) (fun A k => RowM S A c k ∧ ∀ i q, i ≠ 108 → i ≠ 109 → ¬ (i = 112 ∧ 128 * c ≤ q ∧ q < 128 * c + 128) → A i q = J i q) (chl S c).length (fun A k hk hp' => by
    obtain ⟨p1, p2⟩ := hp'
    have hrA : RepS A 103 0 S := RepS_o hr fun q => p2 _ _ (by omega) (by omega) (by omega)
    have hLA : ∀ c, c < S.2.length → RepL A c (chl S c) := fun c hc => RepL_o (hL c hc) (p2 _ _ (by omega) (by omega) (by omega)) fun q _ _ => p2 _ _ (by omega) (by omega) (by omega)
    have hGA : c + 1 < S.2.length → RowM S A (c + 1) (chl S (c + 1)).length := fun h r hr => (p2 _ _ (by omega) (by omega) (by omega)).trans (hG h r hr)
    have hn1 := (hLA c hc).1
    obtain ⟨B, b1, b2⟩ := c143 (L := L) (σ := σ) hrA hVS hc hLA hk hGA
    have f1 : (128 * (c : Int) + (k : Int)).toNat = 128 * c + k := by omega
    refine ⟨fb_u2 B 112 (128 * c + k) (iI ((tgc S c k).1 : Int)), ⟨fun r hrr => ?_, fun i q a1 a2 a3 => ?_⟩, fun Q => ?_⟩
    · by_cases q : r = k
      · subst q; exact u2_eq
      · rw [u2_ne (by omega), b2 _ _ (by omega) (by omega)]
        exact p1 r (by omega)
    · rw [u2_ne (by omega), b2 _ _ a1 a2]
      exact p2 i q a1 a2 a3
    · show ev_w 144 19 [.ref 102, .int (iI (c : Int)), .int (iI (k : Int))] [] (hp L σ A) Q = _
      rw [u144_19]
      simp (disch := first | exact cat_i _ | exact cat_r _ | exact cat_n | omega) only [u144_20, u144_21, u144_24, u144_25, u144_26, u144_29, u144_30, u144_33, u144_36, u144_37, u144_38, u144_39, u144_40, u144_41, u144_42, u144_43, u144_46, u144_47, u144_50, hT_102, hT_111, hT_112, hR_102_10, hR_102_11, hn1, f1, b1, if_pos, if_neg, ↓reduceIte, false_and, and_false, false_or, or_false, ite_not, decide_true, decide_false, Bool.true_eq_false, Bool.false_eq_true, decide_eq_true_eq, decide_eq_false_iff_not, hp_I, hp_sI, hp_N, ev_k_s, ev_k_n, true_and, and_true, true_or, or_true, not_true_eq_false, not_false_eq_true, if_true, if_false, ite_self, Option.some.injEq, exists_eq_left', nb_0, nb_1, nb_z, zI_t, zI_f, zI_e, cat_i, cat_r, cat_n, iI_add, iI_sub, iI_mul, iI_neg, iI_lt, iI_le, iI_eq, iI_idx, iI_inT, iI_ne0, ite_false, ite_true, iN_0, iN_1, Int.reduceAdd, Int.reduceSub, Int.reduceMul, Int.reduceNeg, Int.reduceDiv, Int.reduceMod, Int.reduceEq, Int.reduceLT, Int.reduceLE, Int.reduceToNat, Nat.reduceAdd, Nat.reduceSub, Nat.reduceMul, Nat.reduceLT, Nat.reduceLeDiff, Nat.reduceEqDiff, Int.cast_ofNat_Int, Std.le_refl, and_self, Int.toNat_natCast, Int.toNat_zero, Nat.le_refl]
      all_goals rfl) (chl S c).length 0 J (by omega) ⟨fun r h => absurd h (Nat.not_lt_zero r), fun _ _ _ _ _ => rfl⟩
  refine ⟨K, p1, p2, fun Q => ?_⟩
  have hn1 : K 111 c = iI ((chl S c).length : Int) := (p2 _ _ (by omega) (by omega) (by omega)).trans (hL c hc).1
  refine Eq.trans (e Q) ?_
  clear e
  have f3 : (c : Int) + -1 = (c : Int) - 1 := by omega
  simp (disch := first | exact cat_i _ | exact cat_r _ | exact cat_n | omega) only [u144_19, u144_20, u144_21, u144_24, u144_25, u144_26, u144_53, u144_56, hT_102, hT_111, hR_102_10, hn1, f3, if_pos, if_neg, ↓reduceIte, false_and, and_false, false_or, or_false, ite_not, decide_true, decide_false, Bool.true_eq_false, Bool.false_eq_true, decide_eq_true_eq, decide_eq_false_iff_not, hp_I, hp_sI, hp_N, ev_k_s, ev_k_n, true_and, and_true, true_or, or_true, not_true_eq_false, not_false_eq_true, if_true, if_false, ite_self, Option.some.injEq, exists_eq_left', nb_0, nb_1, nb_z, zI_t, zI_f, zI_e, cat_i, cat_r, cat_n, iI_add, iI_sub, iI_mul, iI_neg, iI_lt, iI_le, iI_eq, iI_idx, iI_inT, iI_ne0, ite_false, ite_true, iN_0, iN_1, Int.reduceAdd, Int.reduceSub, Int.reduceMul, Int.reduceNeg, Int.reduceDiv, Int.reduceMod, Int.reduceEq, Int.reduceLT, Int.reduceLE, Int.reduceToNat, Nat.reduceAdd, Nat.reduceSub, Nat.reduceMul, Nat.reduceLT, Nat.reduceLeDiff, Nat.reduceEqDiff, Int.cast_ofNat_Int, Std.le_refl, and_self, Int.toNat_natCast, Int.toNat_zero, Nat.le_refl]
/-- solves -/
theorem c144 (hr : RepS I 103 0 S) (hVS : VS S) : ∃ J, (∀ Q : Option Value → fb_H → Prop, ev_c 144 [.ref 102] (hp L σ I) Q = Q (some (.int (iI ((if S.2.length = 0 then 1000000 else (lst S).1 : Nat) : Int)))) (hp L σ J)) ∧ (∀ c, c < S.2.length → RepL J c (chl S c)) ∧ (∀ c, c < S.2.length → RowM S J c (chl S c).length) ∧ OthM I J := by
  have hl := hVS.2.2.2.1
  obtain ⟨G, g1, g2, g3⟩ := c142 (L := L) (σ := σ) hr hVS
  have hrG : RepS G 103 0 S := RepS_o hr fun q => g3 _ _ (by omega)
  have h0G := hrG.1
  obtain ⟨⟨J, x⟩, ⟨p1, p2, p3, p4⟩, e⟩ := lx (fun Q (a : (Nat → Nat → Int32) × Value) (k : Nat) => ev_w 144 13 [.ref 102, .int (iI ((S.2.length : Int) - 1 - (k : Int))), a.2] [] (hp L σ a.1) Q) (fun a k => a.2.category = 1 ∧ (∀ c, c < S.2.length → RepL a.1 c (chl S c)) ∧ (∀ c, c < S.2.length → S.2.length ≤ c + k → RowM S a.1 c (chl S c).length) ∧ OthM I a.1) S.2.length (fun a k hk hp' => by
    obtain ⟨A, x⟩ := a
    obtain ⟨p1, p2, p3, p4⟩ := hp'
    dsimp only at p1 p2 p3 p4
    have hrA : RepS A 103 0 S := RepS_o hr fun q => p4 _ _ (by omega)
    obtain ⟨K, k1, k2, k3⟩ := c144r (L := L) (σ := σ) hrA hVS (c := S.2.length - 1 - k) (by omega) p2 (fun h => p3 (S.2.length - 1 - k + 1) h (by omega))
    refine ⟨(K, .int (iI ((chl S (S.2.length - 1 - k)).length : Int))), ⟨cat_i _, fun c hc => RepL_o (p2 c hc) (k2 _ _ (by omega) (by omega) (by omega)) fun q _ _ => k2 _ _ (by omega) (by omega) (by omega), fun c hc hck => ?_, fun i q hi => (k2 i q (by omega) (by omega) (by omega)).trans (p4 i q hi)⟩, fun Q => ?_⟩
    · by_cases q : c = S.2.length - 1 - k
      · subst q; exact k1
      · intro r hrr
        have h20 := (p2 c hc).2.1
        exact (k2 _ _ (by omega) (by omega) (by omega)).trans (p3 c hc (by omega) r hrr)
    · have ek : (S.2.length : Int) - 1 - (k : Int) = ((S.2.length - 1 - k : Nat) : Int) := by omega
      have ek2 : (S.2.length : Int) - 1 - ((k + 1 : Nat) : Int) = ((S.2.length - 1 - k : Nat) : Int) - 1 := by omega
      show ev_w 144 13 [.ref 102, .int (iI ((S.2.length : Int) - 1 - (k : Int))), x] [] (hp L σ A) Q = ev_w 144 13 [.ref 102, .int (iI ((S.2.length : Int) - 1 - ((k + 1 : Nat) : Int))), .int (iI ((chl S (S.2.length - 1 - k)).length : Int))] [] (hp L σ K) Q
      rw [ek, ek2, u144_13]
      refine Eq.trans ?_ (k3 Q)
      simp (disch := first | exact p1 | exact cat_i _ | exact cat_r _ | omega) only [u144_14, u144_17, u144_18, if_pos, if_neg, ↓reduceIte, false_and, and_false, false_or, or_false, ite_not, decide_true, decide_false, Bool.true_eq_false, Bool.false_eq_true, decide_eq_true_eq, decide_eq_false_iff_not, hp_I, hp_sI, hp_N, ev_k_s, ev_k_n, true_and, and_true, true_or, or_true, not_true_eq_false, not_false_eq_true, if_true, if_false, ite_self, Option.some.injEq, exists_eq_left', nb_0, nb_1, nb_z, zI_t, zI_f, zI_e, cat_i, cat_r, cat_n, iI_add, iI_sub, iI_mul, iI_neg, iI_lt, iI_le, iI_eq, iI_idx, iI_inT, iI_ne0, ite_false, ite_true, iN_0, iN_1, Int.reduceAdd, Int.reduceSub, Int.reduceMul, Int.reduceNeg, Int.reduceDiv, Int.reduceMod, Int.reduceEq, Int.reduceLT, Int.reduceLE, Int.reduceToNat, Nat.reduceAdd, Nat.reduceSub, Nat.reduceMul, Nat.reduceLT, Nat.reduceLeDiff, Nat.reduceEqDiff, Int.cast_ofNat_Int, Std.le_refl, and_self, Int.toNat_natCast, Int.toNat_zero, Nat.le_refl]) S.2.length 0 (G, .null) (by omega) ⟨rfl, g2, fun c hc h => absurd h (by omega), g3⟩
  dsimp only at p1 p2 p3 p4
  have hrJ : RepS J 103 0 S := RepS_o hr fun q => p4 _ _ (by omega)
  have h0J := hrJ.1
  refine ⟨J, fun Q => ?_, p2, fun c hc => p3 c hc (by omega), p4⟩
  have e1 := e Q
  clear e
  rw [show (S.2.length : Int) - 1 - ((0 : Nat) : Int) = (S.2.length : Int) - 1 by omega, show (S.2.length : Int) - 1 - (S.2.length : Int) = -1 by omega] at e1
  have fin : ev_w 144 64 [.ref 102, .int (iI 1000000), .int (iI 0)] [] (hp L σ J) Q = Q (some (.int (iI ((if S.2.length = 0 then 1000000 else (lst S).1 : Nat) : Int)))) (hp L σ J) := by
    by_cases hz : S.2.length = 0
    · rw [if_pos hz]
      rw [hz] at h0J
      simp (disch := first | exact cat_i _ | exact cat_r _ | exact cat_n | omega) only [u144_64, u144_65, u144_68, u144_69, u144_70, u144_110, u144_111, hT_102, hT_103, hR_102_0, h0J, if_pos, if_neg, ↓reduceIte, false_and, and_false, false_or, or_false, ite_not, decide_true, decide_false, Bool.true_eq_false, Bool.false_eq_true, decide_eq_true_eq, decide_eq_false_iff_not, hp_I, hp_sI, hp_N, ev_k_s, ev_k_n, true_and, and_true, true_or, or_true, not_true_eq_false, not_false_eq_true, if_true, if_false, ite_self, Option.some.injEq, exists_eq_left', nb_0, nb_1, nb_z, zI_t, zI_f, zI_e, cat_i, cat_r, cat_n, iI_add, iI_sub, iI_mul, iI_neg, iI_lt, iI_le, iI_eq, iI_idx, iI_inT, iI_ne0, ite_false, ite_true, iN_0, iN_1, Int.reduceAdd, Int.reduceSub, Int.reduceMul, Int.reduceNeg, Int.reduceDiv, Int.reduceMod, Int.reduceEq, Int.reduceLT, Int.reduceLE, Int.reduceToNat, Nat.reduceAdd, Nat.reduceSub, Nat.reduceMul, Nat.reduceLT, Nat.reduceLeDiff, Nat.reduceEqDiff, Int.cast_ofNat_Int, Std.le_refl, and_self, Int.toNat_natCast, Int.toNat_zero, Nat.le_refl]
      all_goals rfl
    · rw [if_neg hz]
      have hn0 := (p2 0 (by omega)).1
      have h20 := (p2 0 (by omega)).2.1
      have lp := (lf0 (fun (a : Nat × Option Nat) (k : Nat) => ev_w 144 64 [.ref 102, .int (iI (a.1 : Int)), .int (iI (k : Int))] [] (hp L σ J) Q) (lsf S) (fun a _ => a.1 ≤ 1000000) (chl S 0).length (fun a k hk ha => by
        have hle := tgc_le S 0 k
        have ht := p3 0 (by omega) (by omega) k hk
        rw [Nat.mul_zero, Nat.zero_add] at ht
        refine ⟨by unfold lsf; split <;> first | exact hle | exact ha, ?_⟩
        show ev_w 144 64 [.ref 102, .int (iI (a.1 : Int)), .int (iI (k : Int))] [] (hp L σ J) Q = _
        unfold lsf
        rw [u144_64]
        by_cases q : (tgc S 0 k).1 < a.1
        · rw [if_pos q]
          simp (disch := first | exact cat_i _ | exact cat_r _ | exact cat_n | omega) only [u144_65, u144_68, u144_69, u144_70, u144_73, u144_74, u144_75, u144_78, u144_79, u144_80, u144_83, u144_84, u144_87, u144_88, u144_89, u144_90, u144_93, u144_94, u144_97, u144_98, u144_99, u144_102, u144_103, u144_104, u144_107, hT_102, hT_103, hT_111, hT_112, hR_102_0, hR_102_10, hR_102_11, h0J, hn0, ht, if_pos, if_neg, ↓reduceIte, false_and, and_false, false_or, or_false, ite_not, decide_true, decide_false, Bool.true_eq_false, Bool.false_eq_true, decide_eq_true_eq, decide_eq_false_iff_not, hp_I, hp_sI, hp_N, ev_k_s, ev_k_n, true_and, and_true, true_or, or_true, not_true_eq_false, not_false_eq_true, if_true, if_false, ite_self, Option.some.injEq, exists_eq_left', nb_0, nb_1, nb_z, zI_t, zI_f, zI_e, cat_i, cat_r, cat_n, iI_add, iI_sub, iI_mul, iI_neg, iI_lt, iI_le, iI_eq, iI_idx, iI_inT, iI_ne0, ite_false, ite_true, iN_0, iN_1, Int.reduceAdd, Int.reduceSub, Int.reduceMul, Int.reduceNeg, Int.reduceDiv, Int.reduceMod, Int.reduceEq, Int.reduceLT, Int.reduceLE, Int.reduceToNat, Nat.reduceAdd, Nat.reduceSub, Nat.reduceMul, Nat.reduceLT, Nat.reduceLeDiff, Nat.reduceEqDiff, Int.cast_ofNat_Int, Std.le_refl, and_self, Int.toNat_natCast, Int.toNat_zero, Nat.le_refl]
          all_goals rfl
        · rw [if_neg q]
          simp (disch := first | exact cat_i _ | exact cat_r _ | exact cat_n | omega) only [u144_65, u144_68, u144_69, u144_70, u144_73, u144_74, u144_75, u144_78, u144_79, u144_80, u144_83, u144_84, u144_87, u144_88, u144_89, u144_90, u144_93, u144_94, u144_97, u144_98, u144_99, u144_102, u144_103, u144_104, u144_107, hT_102, hT_103, hT_111, hT_112, hR_102_0, hR_102_10, hR_102_11, h0J, hn0, ht, if_pos, if_neg, ↓reduceIte, false_and, and_false, false_or, or_false, ite_not, decide_true, decide_false, Bool.true_eq_false, Bool.false_eq_true, decide_eq_true_eq, decide_eq_false_iff_not, hp_I, hp_sI, hp_N, ev_k_s, ev_k_n, true_and, and_true, true_or, or_true, not_true_eq_false, not_false_eq_true, if_true, if_false, ite_self, Option.some.injEq, exists_eq_left', nb_0, nb_1, nb_z, zI_t, zI_f, zI_e, cat_i, cat_r, cat_n, iI_add, iI_sub, iI_mul, iI_neg, iI_lt, iI_le, iI_eq, iI_idx, iI_inT, iI_ne0, ite_false, ite_true, iN_0, iN_1, Int.reduceAdd, Int.reduceSub, Int.reduceMul, Int.reduceNeg, Int.reduceDiv, Int.reduceMod, Int.reduceEq, Int.reduceLT, Int.reduceLE, Int.reduceToNat, Nat.reduceAdd, Nat.reduceSub, Nat.reduceMul, Nat.reduceLT, Nat.reduceLeDiff, Nat.reduceEqDiff, Int.cast_ofNat_Int, Std.le_refl, and_self, Int.toNat_natCast, Int.toNat_zero, Nat.le_refl]
          all_goals rfl) (1000000, none) (Nat.le_refl _)).1
      refine Eq.trans lp ?_
      show ev_w 144 64 [.ref 102, .int (iI ((lst S).1 : Int)), .int (iI ((chl S 0).length : Int))] [] (hp L σ J) Q = _
      simp (disch := first | exact cat_i _ | exact cat_r _ | exact cat_n | omega) only [u144_64, u144_65, u144_68, u144_69, u144_70, u144_73, u144_74, u144_75, u144_78, u144_79, u144_80, u144_110, u144_111, hT_102, hT_103, hT_111, hR_102_0, hR_102_10, h0J, hn0, if_pos, if_neg, ↓reduceIte, false_and, and_false, false_or, or_false, ite_not, decide_true, decide_false, Bool.true_eq_false, Bool.false_eq_true, decide_eq_true_eq, decide_eq_false_iff_not, hp_I, hp_sI, hp_N, ev_k_s, ev_k_n, true_and, and_true, true_or, or_true, not_true_eq_false, not_false_eq_true, if_true, if_false, ite_self, Option.some.injEq, exists_eq_left', nb_0, nb_1, nb_z, zI_t, zI_f, zI_e, cat_i, cat_r, cat_n, iI_add, iI_sub, iI_mul, iI_neg, iI_lt, iI_le, iI_eq, iI_idx, iI_inT, iI_ne0, ite_false, ite_true, iN_0, iN_1, Int.reduceAdd, Int.reduceSub, Int.reduceMul, Int.reduceNeg, Int.reduceDiv, Int.reduceMod, Int.reduceEq, Int.reduceLT, Int.reduceLE, Int.reduceToNat, Nat.reduceAdd, Nat.reduceSub, Nat.reduceMul, Nat.reduceLT, Nat.reduceLeDiff, Nat.reduceEqDiff, Int.cast_ofNat_Int, Std.le_refl, and_self, Int.toNat_natCast, Int.toNat_zero, Nat.le_refl]
  simp (disch := first | exact cat_i _ | exact cat_r _ | exact cat_n | omega) only [u144_0, u144_1, u144_4, u144_5, u144_8, u144_9, u144_10, u144_11, u144_12, e144, hT_102, hT_103, hR_102_0, g1, h0G, if_pos, if_neg, ↓reduceIte, false_and, and_false, false_or, or_false, ite_not, decide_true, decide_false, Bool.true_eq_false, Bool.false_eq_true, decide_eq_true_eq, decide_eq_false_iff_not, hp_I, hp_sI, hp_N, ev_k_s, ev_k_n, true_and, and_true, true_or, or_true, not_true_eq_false, not_false_eq_true, if_true, if_false, ite_self, Option.some.injEq, exists_eq_left', nb_0, nb_1, nb_z, zI_t, zI_f, zI_e, cat_i, cat_r, cat_n, iI_add, iI_sub, iI_mul, iI_neg, iI_lt, iI_le, iI_eq, iI_idx, iI_inT, iI_ne0, ite_false, ite_true, iN_0, iN_1, Int.reduceAdd, Int.reduceSub, Int.reduceMul, Int.reduceNeg, Int.reduceDiv, Int.reduceMod, Int.reduceEq, Int.reduceLT, Int.reduceLE, Int.reduceToNat, Nat.reduceAdd, Nat.reduceSub, Nat.reduceMul, Nat.reduceLT, Nat.reduceLeDiff, Nat.reduceEqDiff, Int.cast_ofNat_Int, Std.le_refl, and_self, Int.toNat_natCast, Int.toNat_zero, Nat.le_refl]
  refine e1.trans ?_
  simp (disch := first | exact p1 | exact cat_i _ | exact cat_r _ | omega) only [u144_13, u144_14, u144_59, u144_61, u144_62, u144_63, if_pos, if_neg, ↓reduceIte, false_and, and_false, false_or, or_false, ite_not, decide_true, decide_false, Bool.true_eq_false, Bool.false_eq_true, decide_eq_true_eq, decide_eq_false_iff_not, hp_I, hp_sI, hp_N, ev_k_s, ev_k_n, true_and, and_true, true_or, or_true, not_true_eq_false, not_false_eq_true, if_true, if_false, ite_self, Option.some.injEq, exists_eq_left', nb_0, nb_1, nb_z, zI_t, zI_f, zI_e, cat_i, cat_r, cat_n, iI_add, iI_sub, iI_mul, iI_neg, iI_lt, iI_le, iI_eq, iI_idx, iI_inT, iI_ne0, ite_false, ite_true, iN_0, iN_1, Int.reduceAdd, Int.reduceSub, Int.reduceMul, Int.reduceNeg, Int.reduceDiv, Int.reduceMod, Int.reduceEq, Int.reduceLT, Int.reduceLE, Int.reduceToNat, Nat.reduceAdd, Nat.reduceSub, Nat.reduceMul, Nat.reduceLT, Nat.reduceLeDiff, Nat.reduceEqDiff, Int.cast_ofNat_Int, Std.le_refl, and_self, Int.toNat_natCast, Int.toNat_zero, Nat.le_refl]
  exact fin
/-- ifRealised -/
theorem lst_le (S : Co) : (lst S).1 ≤ 1000000 := (lf0 (fun _ _ => True) (lsf S) (fun a _ => a.1 ≤ 1000000) (chl S 0).length (fun a k _ h => ⟨by have := tgc_le S 0 k; unfold lsf; split <;> first | exact this | exact h, rfl⟩) (1000000, none) (Nat.le_refl _)).2
theorem c145 (hr : RepS I 103 0 S) (hVS : VS S) : ∃ J, (∀ Q : Option Value → fb_H → Prop, ev_c 145 [.ref 102] (hp L σ I) Q = Q (some (.int (iI (lsr S)))) (hp L σ J)) ∧ OthM I J := by
  obtain ⟨J, j1, j2, j3, j4⟩ := c144 (L := L) (σ := σ) hr hVS
  have hle := lst_le S
  refine ⟨J, fun Q => ?_, j4⟩
  unfold lsr
  by_cases hz : S.2.length = 0
  · rw [if_pos hz]
    simp only [hz, if_true, Int.cast_ofNat_Int] at j1
    simp (disch := first | exact cat_i _ | exact cat_r _ | exact cat_n | omega) only [e145, u145_0, u145_1, u145_4, u145_5, u145_6, u145_8, u145_11, u145_12, u145_15, u145_17, hT_102, j1, if_pos, if_neg, ↓reduceIte, false_and, and_false, false_or, or_false, ite_not, decide_true, decide_false, Bool.true_eq_false, Bool.false_eq_true, decide_eq_true_eq, decide_eq_false_iff_not, hp_I, hp_sI, hp_N, ev_k_s, ev_k_n, true_and, and_true, true_or, or_true, not_true_eq_false, not_false_eq_true, if_true, if_false, ite_self, Option.some.injEq, exists_eq_left', nb_0, nb_1, nb_z, zI_t, zI_f, zI_e, cat_i, cat_r, cat_n, iI_add, iI_sub, iI_mul, iI_neg, iI_lt, iI_le, iI_eq, iI_idx, iI_inT, iI_ne0, ite_false, ite_true, iN_0, iN_1, Int.reduceAdd, Int.reduceSub, Int.reduceMul, Int.reduceNeg, Int.reduceDiv, Int.reduceMod, Int.reduceEq, Int.reduceLT, Int.reduceLE, Int.reduceToNat, Nat.reduceAdd, Nat.reduceSub, Nat.reduceMul, Nat.reduceLT, Nat.reduceLeDiff, Nat.reduceEqDiff, Int.cast_ofNat_Int, Std.le_refl, and_self, Int.toNat_natCast, Int.toNat_zero, Nat.le_refl]
  · rw [if_neg hz]
    simp only [hz, if_false] at j1
    by_cases q : (lst S).1 < 1000000
    · rw [if_pos q]
      simp (disch := first | exact cat_i _ | exact cat_r _ | exact cat_n | omega) only [e145, u145_0, u145_1, u145_4, u145_5, u145_6, u145_8, u145_11, u145_12, u145_15, u145_17, hT_102, j1, if_pos, if_neg, ↓reduceIte, false_and, and_false, false_or, or_false, ite_not, decide_true, decide_false, Bool.true_eq_false, Bool.false_eq_true, decide_eq_true_eq, decide_eq_false_iff_not, hp_I, hp_sI, hp_N, ev_k_s, ev_k_n, true_and, and_true, true_or, or_true, not_true_eq_false, not_false_eq_true, if_true, if_false, ite_self, Option.some.injEq, exists_eq_left', nb_0, nb_1, nb_z, zI_t, zI_f, zI_e, cat_i, cat_r, cat_n, iI_add, iI_sub, iI_mul, iI_neg, iI_lt, iI_le, iI_eq, iI_idx, iI_inT, iI_ne0, ite_false, ite_true, iN_0, iN_1, Int.reduceAdd, Int.reduceSub, Int.reduceMul, Int.reduceNeg, Int.reduceDiv, Int.reduceMod, Int.reduceEq, Int.reduceLT, Int.reduceLE, Int.reduceToNat, Nat.reduceAdd, Nat.reduceSub, Nat.reduceMul, Nat.reduceLT, Nat.reduceLeDiff, Nat.reduceEqDiff, Int.cast_ofNat_Int, Std.le_refl, and_self, Int.toNat_natCast, Int.toNat_zero, Nat.le_refl]
    · rw [if_neg q]
      simp (disch := first | exact cat_i _ | exact cat_r _ | exact cat_n | omega) only [e145, u145_0, u145_1, u145_4, u145_5, u145_6, u145_8, u145_11, u145_12, u145_15, u145_17, hT_102, j1, if_pos, if_neg, ↓reduceIte, false_and, and_false, false_or, or_false, ite_not, decide_true, decide_false, Bool.true_eq_false, Bool.false_eq_true, decide_eq_true_eq, decide_eq_false_iff_not, hp_I, hp_sI, hp_N, ev_k_s, ev_k_n, true_and, and_true, true_or, or_true, not_true_eq_false, not_false_eq_true, if_true, if_false, ite_self, Option.some.injEq, exists_eq_left', nb_0, nb_1, nb_z, zI_t, zI_f, zI_e, cat_i, cat_r, cat_n, iI_add, iI_sub, iI_mul, iI_neg, iI_lt, iI_le, iI_eq, iI_idx, iI_inT, iI_ne0, ite_false, ite_true, iN_0, iN_1, Int.reduceAdd, Int.reduceSub, Int.reduceMul, Int.reduceNeg, Int.reduceDiv, Int.reduceMod, Int.reduceEq, Int.reduceLT, Int.reduceLE, Int.reduceToNat, Nat.reduceAdd, Nat.reduceSub, Nat.reduceMul, Nat.reduceLT, Nat.reduceLeDiff, Nat.reduceEqDiff, Int.cast_ofNat_Int, Std.le_refl, and_self, Int.toNat_natCast, Int.toNat_zero, Nat.le_refl]
end MK
