def lsf (S : Co) (a : Nat × Option Nat) (r : Nat) : Nat × Option Nat := if (tgc S 0 r).1 < a.1 then ((tgc S 0 r).1, some r) else a
def lst (S : Co) : Nat × Option Nat := (List.range (chl S 0).length).foldl (lsf S) (1000000, none)
def lsr (S : Co) : Int := if S.2.length = 0 then -5 else if (lst S).1 < 1000000 then ((lst S).1 : Int) else -5
def RowC (S : Co) (J : Nat → Nat → Int32) (c k : Nat) : Prop := ∀ r, r < k → J (61 + c) r = iI ((tgc S c r).1 : Int) ∧ ∀ q, (tgc S c r).2 = some q → J (72 + c) r = iI (q : Int)
section LE
variable {Q : Option Value → fb_H → Prop} {n : Nat} {L t y : Nat} {σ : Nat → Nat} {I : Nat → Nat → Int32} {S : Co} {l : List (Nat × Nat × Nat)}
theorem c50r (ht : isp t) (hv : VS S) {c : Nat} (hc : c < S.2.length) {J : Nat → Nat → Int32} (hr : RepP J t S) (hs : StI J) (hw : ∀ c, c < S.2.length → RepV J (82 + 2 * c) (chl S c)) (hg : c + 1 < S.2.length → RowC S J (c + 1) (chl S (c + 1)).length) : ∃ K, RowC S K c (chl S c).length ∧ (∀ i q, i ≠ 61 + c → i ≠ 72 + c → K i q = J i q) ∧ ∀ Q : Option Value → fb_H → Prop, ev_w 50 28 [.ref 58, .ref t, .int (iI (c : Int)), .int (iI 0)] [] (hp L σ J) Q = ev_w 50 22 [.ref 58, .ref t, .int (iI ((c : Int) - 1)), .int (iI ((chl S c).length : Int))] [] (hp L σ K) Q := by
  have hl := hv.2.2.2.1
  have ht2 := isp_lt ht
  obtain ⟨K, ⟨p1, p2⟩, e⟩ := lx (fun Q (A : Nat → Nat → Int32) (k : Nat) => ev_w 50 28 [.ref 58, .ref t, .int (iI (c : Int)), .int (iI (k : Int))] [] (hp L σ A) Q) (fun A k => RowC S A c k ∧ ∀ i q, i ≠ 61 + c → i ≠ 72 + c → A i q = J i q) (chl S c).length (fun A k hk hp' => by
    obtain ⟨p1, p2⟩ := hp'
    have hrA : RepP A t S := RepP_o hr fun i q _ _ => p2 i q (by omega) (by omega)
    have hsA : StI A := StI_o hs fun i q _ => p2 i q (by omega) (by omega)
    have hwA : ∀ c, c < S.2.length → RepV A (82 + 2 * c) (chl S c) := fun d hd => RepV_o (hw d hd) fun q => ⟨p2 _ _ (by omega) (by omega), p2 _ _ (by omega) (by omega)⟩
    have h20 := (hw c hc).2.1
    obtain ⟨K, k1, k2, k3, k4⟩ := c52 (L := L) (σ := σ) ht hv hc hrA hsA (hwA c hc) (hwA (c + 1)) hk (fun h q hq => (p2 _ _ (by omega) (by omega)).trans (hg h q hq).1)
    refine ⟨K, ⟨fun r hrr => ?_, fun i q h1 h2 => (k2 i q (by omega)).trans (p2 i q h1 h2)⟩, fun Q => ?_⟩
    · by_cases q : r = k
      · subst q; exact ⟨k3, k4⟩
      · obtain ⟨a1, a2⟩ := p1 r (by omega)
        exact ⟨(k2 _ _ (by omega)).trans a1, fun q hq => (k2 _ _ (by omega)).trans (a2 q hq)⟩
    · have e71 := fun Q => c71 (L := L) (σ := σ) (Q := Q) (isv_w (k := c) (by omega)) (hwA c hc)
      have hT := hT_v (L := L) (σ := σ) (I := A) (isv_w (k := c) (by omega))
      show ev_w 50 28 [.ref 58, .ref t, .int (iI (c : Int)), .int (iI (k : Int))] [] (hp L σ A) Q = _
      rw [u50_28]
      simp (disch := first | exact cat_i _ | exact cat_r _ | exact cat_n | omega) only [u50_29, u50_30, u50_33, u50_34, u50_35, u50_38, u50_41, u50_42, u50_43, u50_44, u50_45, u50_48, u50_51, hT_58, hT_59, hR_58_0, hR_59, hT, e71, k1, if_pos, if_neg, ↓reduceIte, false_and, and_false, false_or, or_false, ite_not, decide_true, decide_false, Bool.true_eq_false, Bool.false_eq_true, decide_eq_true_eq, decide_eq_false_iff_not, hp_I, hp_sI, hp_N, ev_k_s, ev_k_n, true_and, and_true, true_or, or_true, not_true_eq_false, not_false_eq_true, if_true, if_false, ite_self, Option.some.injEq, exists_eq_left', nb_0, nb_1, nb_z, zI_t, zI_f, zI_e, cat_i, cat_r, cat_n, iI_add, iI_sub, iI_mul, iI_neg, iI_lt, iI_le, iI_eq, iI_idx, iI_inT, iI_ne0, ite_false, ite_true, iN_0, iN_1, Int.reduceAdd, Int.reduceSub, Int.reduceMul, Int.reduceNeg, Int.reduceDiv, Int.reduceMod, Int.reduceEq, Int.reduceLT, Int.reduceLE, Int.reduceToNat, Nat.reduceAdd, Nat.reduceSub, Nat.reduceMul, Nat.reduceLT, Nat.reduceLeDiff, Nat.reduceEqDiff, Int.cast_ofNat_Int, Std.le_refl, and_self, Int.toNat_natCast, Int.toNat_zero, Nat.le_refl]
      rfl) (chl S c).length 0 J (by omega) ⟨fun r h => absurd h (Nat.not_lt_zero r), fun _ _ _ _ => rfl⟩
  refine ⟨K, p1, p2, fun Q => (e Q).trans ?_⟩
  have hwK : RepV K (82 + 2 * c) (chl S c) := RepV_o (hw c hc) fun q => ⟨p2 _ _ (by omega) (by omega), p2 _ _ (by omega) (by omega)⟩
  have h20 := hwK.2.1
  have e71 := fun Q => c71 (L := L) (σ := σ) (Q := Q) (isv_w (k := c) (by omega)) hwK
  have hT := hT_v (L := L) (σ := σ) (I := K) (isv_w (k := c) (by omega))
  clear e
  show ev_w 50 28 [.ref 58, .ref t, .int (iI (c : Int)), .int (iI ((chl S c).length : Int))] [] (hp L σ K) Q = _
  simp (disch := first | exact cat_i _ | exact cat_r _ | exact cat_n | omega) only [u50_28, u50_29, u50_30, u50_33, u50_34, u50_35, u50_38, u50_54, u50_57, hT_58, hT_59, hR_58_0, hR_59, hT, e71, if_pos, if_neg, ↓reduceIte, false_and, and_false, false_or, or_false, ite_not, decide_true, decide_false, Bool.true_eq_false, Bool.false_eq_true, decide_eq_true_eq, decide_eq_false_iff_not, hp_I, hp_sI, hp_N, ev_k_s, ev_k_n, true_and, and_true, true_or, or_true, not_true_eq_false, not_false_eq_true, if_true, if_false, ite_self, Option.some.injEq, exists_eq_left', nb_0, nb_1, nb_z, zI_t, zI_f, zI_e, cat_i, cat_r, cat_n, iI_add, iI_sub, iI_mul, iI_neg, iI_lt, iI_le, iI_eq, iI_idx, iI_inT, iI_ne0, ite_false, ite_true, iN_0, iN_1, Int.reduceAdd, Int.reduceSub, Int.reduceMul, Int.reduceNeg, Int.reduceDiv, Int.reduceMod, Int.reduceEq, Int.reduceLT, Int.reduceLE, Int.reduceToNat, Nat.reduceAdd, Nat.reduceSub, Nat.reduceMul, Nat.reduceLT, Nat.reduceLeDiff, Nat.reduceEqDiff, Int.cast_ofNat_Int, Std.le_refl, and_self, Int.toNat_natCast, Int.toNat_zero, Nat.le_refl]
  rfl
theorem c50 (ht : isp t) (hr : RepP I t S) (hv : VS S) (hs : StI I) : ∃ J, (∀ Q : Option Value → fb_H → Prop, ev_c 50 [.ref 58, .ref t] (hp L σ I) Q = Q (some (.int (iI (lsr S)))) (hp L σ J)) ∧ (∀ i q, (i < 58 ∨ 102 ≤ i) → J i q = I i q) ∧ (0 < S.2.length → (∀ c, c < S.2.length → RepV J (82 + 2 * c) (chl S c)) ∧ (∀ c, c < S.2.length → RowC S J c (chl S c).length) ∧ ∀ q, (lst S).2 = some q → J 58 3 = iI (q : Int)) := by
  have hl := hv.2.2.2.1
  have ht2 := isp_lt ht
  by_cases hz : S.2.length = 0
  · refine ⟨I, fun Q => ?_, fun _ _ _ => rfl, fun h => absurd h (by omega)⟩
    have e25 := fun Q => c25 (L := L) (σ := σ) (Q := Q) ht hr
    rw [hz] at e25
    unfold lsr
    rw [if_pos hz]
    simp (disch := first | exact cat_i _ | exact cat_r _ | exact cat_n | omega) only [u50_0, u50_1, u50_4, u50_7, u50_9, e50, hT_p ht, e25, if_pos, if_neg, ↓reduceIte, false_and, and_false, false_or, or_false, ite_not, decide_true, decide_false, Bool.true_eq_false, Bool.false_eq_true, decide_eq_true_eq, decide_eq_false_iff_not, hp_I, hp_sI, hp_N, ev_k_s, ev_k_n, true_and, and_true, true_or, or_true, not_true_eq_false, not_false_eq_true, if_true, if_false, ite_self, Option.some.injEq, exists_eq_left', nb_0, nb_1, nb_z, zI_t, zI_f, zI_e, cat_i, cat_r, cat_n, iI_add, iI_sub, iI_mul, iI_neg, iI_lt, iI_le, iI_eq, iI_idx, iI_inT, iI_ne0, ite_false, ite_true, iN_0, iN_1, Int.reduceAdd, Int.reduceSub, Int.reduceMul, Int.reduceNeg, Int.reduceDiv, Int.reduceMod, Int.reduceEq, Int.reduceLT, Int.reduceLE, Int.reduceToNat, Nat.reduceAdd, Nat.reduceSub, Nat.reduceMul, Nat.reduceLT, Nat.reduceLeDiff, Nat.reduceEqDiff, Int.cast_ofNat_Int, Std.le_refl, and_self, Int.toNat_natCast, Int.toNat_zero, Nat.le_refl]
  · obtain ⟨G, g1, g2, g3⟩ := c51 (L := L) (σ := σ) ht hr hv hs
    obtain ⟨⟨J, x⟩, ⟨p1, p2, p3, p4⟩, e⟩ := lx (fun Q (a : (Nat → Nat → Int32) × Value) (k : Nat) => ev_w 50 22 [.ref 58, .ref t, .int (iI ((S.2.length : Int) - 1 - (k : Int))), a.2] [] (hp L σ a.1) Q) (fun a k => a.2.category = 1 ∧ (∀ c, c < S.2.length → RepV a.1 (82 + 2 * c) (chl S c)) ∧ (∀ c, c < S.2.length → S.2.length ≤ c + k → RowC S a.1 c (chl S c).length) ∧ ∀ i q, (i < 58 ∨ 102 ≤ i) → a.1 i q = I i q) S.2.length (fun a k hk hp' => by
      obtain ⟨A, x⟩ := a
      obtain ⟨p1, p2, p3, p4⟩ := hp'
      dsimp only at p1 p2 p3 p4
      have hrA : RepP A t S := RepP_o hr fun i q _ _ => p4 i q (by omega)
      have hsA : StI A := StI_o hs fun i q _ => p4 i q (by omega)
      obtain ⟨K, k1, k2, k3⟩ := c50r (L := L) (σ := σ) ht hv (c := S.2.length - 1 - k) (by omega) hrA hsA p2 (fun h => p3 (S.2.length - 1 - k + 1) h (by omega))
      refine ⟨(K, .int (iI ((chl S (S.2.length - 1 - k)).length : Int))), ⟨cat_i _, fun c hc => RepV_o (p2 c hc) fun q => ⟨k2 _ _ (by omega) (by omega), k2 _ _ (by omega) (by omega)⟩, fun c hc hck => ?_, fun i q hi => (k2 i q (by omega) (by omega)).trans (p4 i q hi)⟩, fun Q => ?_⟩
      · by_cases q : c = S.2.length - 1 - k
        · subst q; exact k1
        · intro r hrr
          obtain ⟨a1, a2⟩ := p3 c hc (by omega) r hrr
          exact ⟨(k2 _ _ (by omega) (by omega)).trans a1, fun q hq => (k2 _ _ (by omega) (by omega)).trans (a2 q hq)⟩
      · have ek : (S.2.length : Int) - 1 - (k : Int) = ((S.2.length - 1 - k : Nat) : Int) := by omega
        have ek2 : (S.2.length : Int) - 1 - ((k + 1 : Nat) : Int) = ((S.2.length - 1 - k : Nat) : Int) - 1 := by omega
        show ev_w 50 22 [.ref 58, .ref t, .int (iI ((S.2.length : Int) - 1 - (k : Int))), x] [] (hp L σ A) Q = ev_w 50 22 [.ref 58, .ref t, .int (iI ((S.2.length : Int) - 1 - ((k + 1 : Nat) : Int))), .int (iI ((chl S (S.2.length - 1 - k)).length : Int))] [] (hp L σ K) Q
        rw [ek, ek2, u50_22]
        refine Eq.trans ?_ (k3 Q)
        simp (disch := first | exact p1 | exact cat_i _ | omega) only [u50_23, u50_26, u50_27, if_pos, if_neg, ↓reduceIte, false_and, and_false, false_or, or_false, ite_not, decide_true, decide_false, Bool.true_eq_false, Bool.false_eq_true, decide_eq_true_eq, decide_eq_false_iff_not, hp_I, hp_sI, hp_N, ev_k_s, ev_k_n, true_and, and_true, true_or, or_true, not_true_eq_false, not_false_eq_true, if_true, if_false, ite_self, Option.some.injEq, exists_eq_left', nb_0, nb_1, nb_z, zI_t, zI_f, zI_e, cat_i, cat_r, cat_n, iI_add, iI_sub, iI_mul, iI_neg, iI_lt, iI_le, iI_eq, iI_idx, iI_inT, iI_ne0, ite_false, ite_true, iN_0, iN_1, Int.reduceAdd, Int.reduceSub, Int.reduceMul, Int.reduceNeg, Int.reduceDiv, Int.reduceMod, Int.reduceEq, Int.reduceLT, Int.reduceLE, Int.reduceToNat, Nat.reduceAdd, Nat.reduceSub, Nat.reduceMul, Nat.reduceLT, Nat.reduceLeDiff, Nat.reduceEqDiff, Int.cast_ofNat_Int, Std.le_refl, and_self, Int.toNat_natCast, Int.toNat_zero, Nat.le_refl]) S.2.length 0 (G, .null) (by omega) ⟨rfl, g2, fun c hc h => absurd h (by omega), fun i q hi => g3 i q (by omega)⟩
    dsimp only at p1 p2 p3 p4
    obtain ⟨⟨K, acc, y⟩, ⟨r1, r2, r3, r4, r5⟩, e'⟩ := lx (fun Q (a : (Nat → Nat → Int32) × (Nat × Option Nat) × Value) (k : Nat) => ev_w 50 65 [.ref 58, .ref t, .int (iI (a.2.1.1 : Int)), .int (iI (k : Int))] [] (hp L σ a.1) Q) (fun a k => a.2.2.category = 1 ∧ a.2.1.1 ≤ 1000000 ∧ a.2.1 = (List.range k).foldl (lsf S) (1000000, none) ∧ (∀ i q, i ≠ 58 → a.1 i q = J i q) ∧ ∀ q, a.2.1.2 = some q → a.1 58 3 = iI (q : Int)) (chl S 0).length (fun a k hk hp' => by
      obtain ⟨A, acc, x⟩ := a
      obtain ⟨r1, r2, r3, r4, r5⟩ := hp'
      dsimp only at r1 r2 r3 r4 r5
      have hw0 : RepV A 82 (chl S 0) := RepV_o (p2 0 (by omega)) fun q => ⟨r4 _ _ (by omega), r4 _ _ (by omega)⟩
      have h20 := hw0.2.1
      have e71 := fun Q => c71 (L := L) (σ := σ) (Q := Q) (isv_w (k := 0) (by omega)) hw0
      have hc0 : A 61 k = iI ((tgc S 0 k).1 : Int) := (r4 _ _ (by omega)).trans (p3 0 (by omega) (by omega) k hk).1
      have hle := tgc_le S 0 k
      have hfold : (List.range (k + 1)).foldl (lsf S) (1000000, none) = lsf S acc k := by rw [List.range_succ, List.foldl_append, ← r3]; rfl
      by_cases q : (tgc S 0 k).1 < acc.1
      · have eq1 : lsf S acc k = ((tgc S 0 k).1, some k) := by unfold lsf; rw [if_pos q]
        refine ⟨(fb_u2 A 58 3 (iI (k : Int)), ((tgc S 0 k).1, some k), x), ⟨r1, hle, by rw [hfold, eq1], fun i q hi => (u2_ne (by omega)).trans (r4 i q hi), fun q hq => by cases hq; exact (u2_eq : fb_u2 A 58 3 (iI (k : Int)) 58 3 = _)⟩, fun Q => ?_⟩
        show ev_w 50 65 [.ref 58, .ref t, .int (iI (acc.1 : Int)), .int (iI (k : Int))] [] (hp L σ A) Q = _
        rw [u50_65]
        simp (disch := first | exact cat_i _ | exact cat_r _ | exact cat_n | omega) only [u50_66, u50_67, u50_70, u50_71, u50_72, u50_75, u50_78, u50_79, u50_82, u50_83, u50_84, u50_85, u50_86, u50_87, u50_90, u50_91, u50_94, u50_95, u50_96, u50_97, u50_98, u50_99, u50_100, u50_101, u50_104, u50_107, hT_58, hT_59, hT_60, hR_58_0, hR_58_1, hR_59_0, hR_60_0, hT_82, hT_61, e71, hc0, if_pos, if_neg, ↓reduceIte, false_and, and_false, false_or, or_false, ite_not, decide_true, decide_false, Bool.true_eq_false, Bool.false_eq_true, decide_eq_true_eq, decide_eq_false_iff_not, hp_I, hp_sI, hp_N, ev_k_s, ev_k_n, true_and, and_true, true_or, or_true, not_true_eq_false, not_false_eq_true, if_true, if_false, ite_self, Option.some.injEq, exists_eq_left', nb_0, nb_1, nb_z, zI_t, zI_f, zI_e, cat_i, cat_r, cat_n, iI_add, iI_sub, iI_mul, iI_neg, iI_lt, iI_le, iI_eq, iI_idx, iI_inT, iI_ne0, ite_false, ite_true, iN_0, iN_1, Int.reduceAdd, Int.reduceSub, Int.reduceMul, Int.reduceNeg, Int.reduceDiv, Int.reduceMod, Int.reduceEq, Int.reduceLT, Int.reduceLE, Int.reduceToNat, Nat.reduceAdd, Nat.reduceSub, Nat.reduceMul, Nat.reduceLT, Nat.reduceLeDiff, Nat.reduceEqDiff, Int.cast_ofNat_Int, Std.le_refl, and_self, Int.toNat_natCast, Int.toNat_zero, Nat.le_refl]
        rfl
      · have eq1 : lsf S acc k = acc := by unfold lsf; rw [if_neg q]
        refine ⟨(A, acc, x), ⟨r1, r2, by rw [hfold, eq1], r4, r5⟩, fun Q => ?_⟩
        show ev_w 50 65 [.ref 58, .ref t, .int (iI (acc.1 : Int)), .int (iI (k : Int))] [] (hp L σ A) Q = _
        rw [u50_65]
        simp (disch := first | exact cat_i _ | exact cat_r _ | exact cat_n | omega) only [u50_66, u50_67, u50_70, u50_71, u50_72, u50_75, u50_78, u50_79, u50_82, u50_83, u50_84, u50_85, u50_86, u50_87, u50_90, u50_91, u50_94, u50_95, u50_96, u50_97, u50_98, u50_99, u50_100, u50_101, u50_104, u50_107, hT_58, hT_59, hT_60, hR_58_0, hR_58_1, hR_59_0, hR_60_0, hT_82, hT_61, e71, hc0, if_pos, if_neg, ↓reduceIte, false_and, and_false, false_or, or_false, ite_not, decide_true, decide_false, Bool.true_eq_false, Bool.false_eq_true, decide_eq_true_eq, decide_eq_false_iff_not, hp_I, hp_sI, hp_N, ev_k_s, ev_k_n, true_and, and_true, true_or, or_true, not_true_eq_false, not_false_eq_true, if_true, if_false, ite_self, Option.some.injEq, exists_eq_left', nb_0, nb_1, nb_z, zI_t, zI_f, zI_e, cat_i, cat_r, cat_n, iI_add, iI_sub, iI_mul, iI_neg, iI_lt, iI_le, iI_eq, iI_idx, iI_inT, iI_ne0, ite_false, ite_true, iN_0, iN_1, Int.reduceAdd, Int.reduceSub, Int.reduceMul, Int.reduceNeg, Int.reduceDiv, Int.reduceMod, Int.reduceEq, Int.reduceLT, Int.reduceLE, Int.reduceToNat, Nat.reduceAdd, Nat.reduceSub, Nat.reduceMul, Nat.reduceLT, Nat.reduceLeDiff, Nat.reduceEqDiff, Int.cast_ofNat_Int, Std.le_refl, and_self, Int.toNat_natCast, Int.toNat_zero, Nat.le_refl]
        rfl) (chl S 0).length 0 (J, (1000000, none), .null) (by omega) ⟨rfl, Nat.le_refl _, rfl, fun _ _ _ => rfl, fun q h => by cases h⟩
    dsimp only at r1 r2 r3 r4 r5
    have hacc : acc = lst S := r3
    refine ⟨K, fun Q => ?_, fun i q hi => (r4 i q (by omega)).trans (p4 i q hi), fun _ => ⟨fun c hc => RepV_o (p2 c hc) fun q => ⟨r4 _ _ (by omega), r4 _ _ (by omega)⟩, fun c hc r hrr => ?_, fun q hq => r5 q (by rw [hacc]; exact hq)⟩⟩
    · have e1 := e Q
      have e2 := e' Q
      clear e e'
      have e25 := fun Q => c25 (L := L) (σ := σ) (Q := Q) ht hr
      have hrG : RepP G t S := RepP_o hr fun i q _ _ => g3 i q (by omega)
      have e25G := fun Q => c25 (L := L) (σ := σ) (Q := Q) ht hrG
      have hw0 : RepV K 82 (chl S 0) := RepV_o (p2 0 (by omega)) fun q => ⟨r4 _ _ (by omega), r4 _ _ (by omega)⟩
      have h20 := hw0.2.1
      have e71 := fun Q => c71 (L := L) (σ := σ) (Q := Q) (isv_w (k := 0) (by omega)) hw0
      rw [show (S.2.length : Int) - 1 - ((0 : Nat) : Int) = (S.2.length : Int) - 1 by omega, show (S.2.length : Int) - 1 - (S.2.length : Int) = -1 by omega] at e1
      have e3 : ev_w 50 65 [.ref 58, .ref t, .int (iI (acc.1 : Int)), .int (iI ((chl S 0).length : Int))] [] (hp L σ K) Q = Q (some (.int (iI (lsr S)))) (hp L σ K) := by
        unfold lsr
        rw [if_neg hz, ← hacc]
        simp (disch := first | exact cat_i _ | exact cat_r _ | exact cat_n | omega) only [u50_65, u50_66, u50_67, u50_70, u50_71, u50_72, u50_75, u50_110, u50_111, u50_113, u50_116, u50_117, u50_120, u50_122, hT_58, hT_59, hR_58_0, hR_59_0, hT_82, e71, if_pos, if_neg, ↓reduceIte, false_and, and_false, false_or, or_false, ite_not, decide_true, decide_false, Bool.true_eq_false, Bool.false_eq_true, decide_eq_true_eq, decide_eq_false_iff_not, hp_I, hp_sI, hp_N, ev_k_s, ev_k_n, true_and, and_true, true_or, or_true, not_true_eq_false, not_false_eq_true, if_true, if_false, ite_self, Option.some.injEq, exists_eq_left', nb_0, nb_1, nb_z, zI_t, zI_f, zI_e, cat_i, cat_r, cat_n, iI_add, iI_sub, iI_mul, iI_neg, iI_lt, iI_le, iI_eq, iI_idx, iI_inT, iI_ne0, ite_false, ite_true, iN_0, iN_1, Int.reduceAdd, Int.reduceSub, Int.reduceMul, Int.reduceNeg, Int.reduceDiv, Int.reduceMod, Int.reduceEq, Int.reduceLT, Int.reduceLE, Int.reduceToNat, Nat.reduceAdd, Nat.reduceSub, Nat.reduceMul, Nat.reduceLT, Nat.reduceLeDiff, Nat.reduceEqDiff, Int.cast_ofNat_Int, Std.le_refl, and_self, Int.toNat_natCast, Int.toNat_zero, Nat.le_refl]
        by_cases q : acc.1 < 1000000
        · rw [if_neg (by omega), if_pos q]
        · rw [if_pos (by omega), if_neg q]
      simp (disch := first | exact cat_i _ | exact cat_r _ | exact cat_n | omega) only [u50_0, u50_1, u50_4, u50_7, u50_9, u50_10, u50_11, u50_12, u50_15, u50_16, u50_19, u50_20, u50_21, e50, hT_p ht, hT_58, e25, e25G, g1, if_pos, if_neg, ↓reduceIte, false_and, and_false, false_or, or_false, ite_not, decide_true, decide_false, Bool.true_eq_false, Bool.false_eq_true, decide_eq_true_eq, decide_eq_false_iff_not, hp_I, hp_sI, hp_N, ev_k_s, ev_k_n, true_and, and_true, true_or, or_true, not_true_eq_false, not_false_eq_true, if_true, if_false, ite_self, Option.some.injEq, exists_eq_left', nb_0, nb_1, nb_z, zI_t, zI_f, zI_e, cat_i, cat_r, cat_n, iI_add, iI_sub, iI_mul, iI_neg, iI_lt, iI_le, iI_eq, iI_idx, iI_inT, iI_ne0, ite_false, ite_true, iN_0, iN_1, Int.reduceAdd, Int.reduceSub, Int.reduceMul, Int.reduceNeg, Int.reduceDiv, Int.reduceMod, Int.reduceEq, Int.reduceLT, Int.reduceLE, Int.reduceToNat, Nat.reduceAdd, Nat.reduceSub, Nat.reduceMul, Nat.reduceLT, Nat.reduceLeDiff, Nat.reduceEqDiff, Int.cast_ofNat_Int, Std.le_refl, and_self, Int.toNat_natCast, Int.toNat_zero, Nat.le_refl]
      refine e1.trans ?_
      simp (disch := first | exact p1 | exact cat_i _ | exact cat_r _ | omega) only [u50_22, u50_23, u50_60, u50_62, u50_63, u50_64, if_pos, if_neg, ↓reduceIte, false_and, and_false, false_or, or_false, ite_not, decide_true, decide_false, Bool.true_eq_false, Bool.false_eq_true, decide_eq_true_eq, decide_eq_false_iff_not, hp_I, hp_sI, hp_N, ev_k_s, ev_k_n, true_and, and_true, true_or, or_true, not_true_eq_false, not_false_eq_true, if_true, if_false, ite_self, Option.some.injEq, exists_eq_left', nb_0, nb_1, nb_z, zI_t, zI_f, zI_e, cat_i, cat_r, cat_n, iI_add, iI_sub, iI_mul, iI_neg, iI_lt, iI_le, iI_eq, iI_idx, iI_inT, iI_ne0, ite_false, ite_true, iN_0, iN_1, Int.reduceAdd, Int.reduceSub, Int.reduceMul, Int.reduceNeg, Int.reduceDiv, Int.reduceMod, Int.reduceEq, Int.reduceLT, Int.reduceLE, Int.reduceToNat, Nat.reduceAdd, Nat.reduceSub, Nat.reduceMul, Nat.reduceLT, Nat.reduceLeDiff, Nat.reduceEqDiff, Int.cast_ofNat_Int, Std.le_refl, and_self, Int.toNat_natCast, Int.toNat_zero, Nat.le_refl]
      exact e2.trans e3
    · obtain ⟨a1, a2⟩ := p3 c hc (by omega) r hrr
      exact ⟨(r4 _ _ (by omega)).trans a1, fun q hq => (r4 _ _ (by omega)).trans (a2 q hq)⟩
end LE
