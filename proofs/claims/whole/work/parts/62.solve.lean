def OthM (I J : Nat → Nat → Int32) : Prop := ∀ i q, (i < 108 ∨ 113 ≤ i) → J i q = I i q
/-- the cost of a voicing behind another one -/
def jnc (S : Co) (c : Nat) (v w : Nat × Nat × Nat) : Nat := if jok S c v w = true then dst v w else 1000000
section MJ
variable {L : Nat} {σ : Nat → Nat} {I J : Nat → Nat → Int32} {Q : Option Value → fb_H → Prop} {h : fb_H} {x y z iv : Int} {S : Co} {n m a o b b' : Nat} {v w : Nat × Nat × Nat}
/-- joins -/
theorem c141 {p r : Nat} {l1 l2 : List (Nat × Nat × Nat)} (hr : RepS I 103 0 S) (hVS : VS S) (hn : n + 1 < S.2.length) (hL1 : RepE I n l1) (hL2 : RepE I (n + 1) l2) (hp1 : p < l1.length) (hrk : r < l2.length) : ∃ J, (∀ Q : Option Value → fb_H → Prop, ev_c 141 [.ref 102, .int (iI ((n + 1 : Nat) : Int)), .int (iI (p : Int)), .int (iI (r : Int))] (hp L σ I) Q = Q (some (.int (iI ((jnc S n (l1.getD p (0, 0, 0)) (l2.getD r (0, 0, 0)) : Nat) : Int)))) (hp L σ J)) ∧ OthF I J := by
  have hl := hVS.2.2.2.1
  have hn2 : n < S.2.length := by omega
  have e1 : ((n + 1 : Nat) : Int) - 1 = (n : Int) := by omega
  have hv := RepE_in hL1 hp1
  have hw := RepE_in hL2 hrk
  have e140 := fun Q => c140 (L := L) (σ := σ) (Q := Q) hr hl hn2 hL1 hp1
  have hr2 : RepS (w4 I 108 (ch S n).1 (l1.getD p (0, 0, 0))) 103 0 S := RepS_o hr fun q => w4_o (by omega)
  have hL2' : RepE (w4 I 108 (ch S n).1 (l1.getD p (0, 0, 0))) (n + 1) l2 := RepE_o hL2 fun q _ _ => w4_o (by omega)
  have e139 := fun Q => c139 (L := L) (σ := σ) (Q := Q) hr2 hl hn hL2' hrk
  generalize l1.getD p (0, 0, 0) = v at *
  generalize l2.getD r (0, 0, 0) = w at *
  have hr3 : RepS (w4 (w4 I 108 (ch S n).1 v) 109 (ch S (n + 1)).1 w) 103 0 S := RepS_o hr2 fun q => w4_o (by omega)
  have e118 := fun Q => c118 (L := L) (σ := σ) (Q := Q) hr3 hl hn2
  have e118' := fun Q => c118 (L := L) (σ := σ) (Q := Q) hr3 hl hn
  have e129 := fun Q => c129 (L := L) (σ := σ) (Q := Q) (I := w4 (w4 I 108 (ch S n).1 v) 109 (ch S (n + 1)).1 w) hr3 hVS hn (R4_o w4_R fun q => w4_o (by omega)) w4_R (bass_le hVS hn2) hv (bass_le hVS hn) hw
  have e135 := fun Q => c135 (L := L) (σ := σ) (I := w4 (w4 I 108 (ch S n).1 v) 109 (ch S (n + 1)).1 w) (Q := Q) (R4_o w4_R fun q => w4_o (by omega)) w4_R hv hw
  refine ⟨w4 (w4 I 108 (ch S n).1 v) 109 (ch S (n + 1)).1 w, fun Q => ?_, fun i q h1 h2 => (w4_o h2).trans (w4_o h1)⟩
  obtain ⟨z, hz, hz2⟩ := bhd_in S.1.1 S.1.2.2 (ch S n).1 v (ch S (n + 1)).1 w (tn S (n + 1))
  unfold jnc jok
  generalize bhd S.1.1 S.1.2.2 (ch S n).1 v (ch S (n + 1)).1 w (tn S (n + 1)) = B at *
  generalize w4 (w4 I 108 (ch S n).1 v) 109 (ch S (n + 1)).1 w = W at *
  cases q1 : (ch S n).2.2.isSome with
  | false =>
    rw [q1] at e118
    by_cases q : B = 0
    · subst q
      simp (disch := first | exact cat_i _ | exact cat_r _ | exact cat_n | omega) only [e141, u141_0, u141_1, u141_2, u141_3, u141_4, u141_5, u141_8, u141_9, u141_10, u141_11, u141_14, u141_15, u141_16, u141_17, u141_18, u141_21, u141_24, u141_25, u141_26, u141_29, u141_32, u141_33, u141_36, u141_37, u141_39, u141_41, u141_44, u141_45, u141_46, u141_49, u141_52, u141_53, u141_56, u141_59, u141_61, hT_102, e1, e140, e139, e118, e129, e135, Bool.false_and, Bool.false_or, Int.cast_ofNat_Int, if_pos, if_neg, ↓reduceIte, false_and, and_false, false_or, or_false, ite_not, decide_true, decide_false, Bool.true_eq_false, Bool.false_eq_true, decide_eq_true_eq, decide_eq_false_iff_not, hp_I, hp_sI, hp_N, ev_k_s, ev_k_n, true_and, and_true, true_or, or_true, not_true_eq_false, not_false_eq_true, if_true, if_false, ite_self, Option.some.injEq, exists_eq_left', nb_0, nb_1, nb_z, zI_t, zI_f, zI_e, cat_i, cat_r, cat_n, iI_add, iI_sub, iI_mul, iI_neg, iI_lt, iI_le, iI_eq, iI_idx, iI_inT, iI_ne0, ite_false, ite_true, iN_0, iN_1, Int.reduceAdd, Int.reduceSub, Int.reduceMul, Int.reduceNeg, Int.reduceDiv, Int.reduceMod, Int.reduceEq, Int.reduceLT, Int.reduceLE, Int.reduceToNat, Nat.reduceAdd, Nat.reduceSub, Nat.reduceMul, Nat.reduceLT, Nat.reduceLeDiff, Nat.reduceEqDiff, Int.cast_ofNat_Int, Std.le_refl, and_self, Int.toNat_natCast, Int.toNat_zero, Nat.le_refl]
    · simp (disch := first | exact cat_i _ | exact cat_r _ | exact cat_n | omega) only [e141, u141_0, u141_1, u141_2, u141_3, u141_4, u141_5, u141_8, u141_9, u141_10, u141_11, u141_14, u141_15, u141_16, u141_17, u141_18, u141_21, u141_24, u141_25, u141_26, u141_29, u141_32, u141_33, u141_36, u141_37, u141_39, u141_41, u141_44, u141_45, u141_46, u141_49, u141_52, u141_53, u141_56, u141_59, u141_61, hT_102, e1, e140, e139, e118, e129, q, Bool.false_and, Bool.false_or, if_pos, if_neg, ↓reduceIte, false_and, and_false, false_or, or_false, ite_not, decide_true, decide_false, Bool.true_eq_false, Bool.false_eq_true, decide_eq_true_eq, decide_eq_false_iff_not, hp_I, hp_sI, hp_N, ev_k_s, ev_k_n, true_and, and_true, true_or, or_true, not_true_eq_false, not_false_eq_true, if_true, if_false, ite_self, Option.some.injEq, exists_eq_left', nb_0, nb_1, nb_z, zI_t, zI_f, zI_e, cat_i, cat_r, cat_n, iI_add, iI_sub, iI_mul, iI_neg, iI_lt, iI_le, iI_eq, iI_idx, iI_inT, iI_ne0, ite_false, ite_true, iN_0, iN_1, Int.reduceAdd, Int.reduceSub, Int.reduceMul, Int.reduceNeg, Int.reduceDiv, Int.reduceMod, Int.reduceEq, Int.reduceLT, Int.reduceLE, Int.reduceToNat, Nat.reduceAdd, Nat.reduceSub, Nat.reduceMul, Nat.reduceLT, Nat.reduceLeDiff, Nat.reduceEqDiff, Int.cast_ofNat_Int, Std.le_refl, and_self, Int.toNat_natCast, Int.toNat_zero, Nat.le_refl]
  | true =>
    rw [q1] at e118
    cases q2 : (ch S (n + 1)).2.2.isSome with
    | false =>
      rw [q2] at e118'
      by_cases q : B = 0
      · subst q
        simp (disch := first | exact cat_i _ | exact cat_r _ | exact cat_n | omega) only [e141, u141_0, u141_1, u141_2, u141_3, u141_4, u141_5, u141_8, u141_9, u141_10, u141_11, u141_14, u141_15, u141_16, u141_17, u141_18, u141_21, u141_24, u141_25, u141_26, u141_29, u141_32, u141_33, u141_36, u141_37, u141_39, u141_41, u141_44, u141_45, u141_46, u141_49, u141_52, u141_53, u141_56, u141_59, u141_61, hT_102, e1, e140, e139, e118, e118', e129, e135, Bool.and_false, Bool.false_or, Int.cast_ofNat_Int, if_pos, if_neg, ↓reduceIte, false_and, and_false, false_or, or_false, ite_not, decide_true, decide_false, Bool.true_eq_false, Bool.false_eq_true, decide_eq_true_eq, decide_eq_false_iff_not, hp_I, hp_sI, hp_N, ev_k_s, ev_k_n, true_and, and_true, true_or, or_true, not_true_eq_false, not_false_eq_true, if_true, if_false, ite_self, Option.some.injEq, exists_eq_left', nb_0, nb_1, nb_z, zI_t, zI_f, zI_e, cat_i, cat_r, cat_n, iI_add, iI_sub, iI_mul, iI_neg, iI_lt, iI_le, iI_eq, iI_idx, iI_inT, iI_ne0, ite_false, ite_true, iN_0, iN_1, Int.reduceAdd, Int.reduceSub, Int.reduceMul, Int.reduceNeg, Int.reduceDiv, Int.reduceMod, Int.reduceEq, Int.reduceLT, Int.reduceLE, Int.reduceToNat, Nat.reduceAdd, Nat.reduceSub, Nat.reduceMul, Nat.reduceLT, Nat.reduceLeDiff, Nat.reduceEqDiff, Int.cast_ofNat_Int, Std.le_refl, and_self, Int.toNat_natCast, Int.toNat_zero, Nat.le_refl]
      · simp (disch := first | exact cat_i _ | exact cat_r _ | exact cat_n | omega) only [e141, u141_0, u141_1, u141_2, u141_3, u141_4, u141_5, u141_8, u141_9, u141_10, u141_11, u141_14, u141_15, u141_16, u141_17, u141_18, u141_21, u141_24, u141_25, u141_26, u141_29, u141_32, u141_33, u141_36, u141_37, u141_39, u141_41, u141_44, u141_45, u141_46, u141_49, u141_52, u141_53, u141_56, u141_59, u141_61, hT_102, e1, e140, e139, e118, e118', e129, q, Bool.and_false, Bool.false_or, if_pos, if_neg, ↓reduceIte, false_and, and_false, false_or, or_false, ite_not, decide_true, decide_false, Bool.true_eq_false, Bool.false_eq_true, decide_eq_true_eq, decide_eq_false_iff_not, hp_I, hp_sI, hp_N, ev_k_s, ev_k_n, true_and, and_true, true_or, or_true, not_true_eq_false, not_false_eq_true, if_true, if_false, ite_self, Option.some.injEq, exists_eq_left', nb_0, nb_1, nb_z, zI_t, zI_f, zI_e, cat_i, cat_r, cat_n, iI_add, iI_sub, iI_mul, iI_neg, iI_lt, iI_le, iI_eq, iI_idx, iI_inT, iI_ne0, ite_false, ite_true, iN_0, iN_1, Int.reduceAdd, Int.reduceSub, Int.reduceMul, Int.reduceNeg, Int.reduceDiv, Int.reduceMod, Int.reduceEq, Int.reduceLT, Int.reduceLE, Int.reduceToNat, Nat.reduceAdd, Nat.reduceSub, Nat.reduceMul, Nat.reduceLT, Nat.reduceLeDiff, Nat.reduceEqDiff, Int.cast_ofNat_Int, Std.le_refl, and_self, Int.toNat_natCast, Int.toNat_zero, Nat.le_refl]
    | true =>
      rw [q2] at e118'
      simp (disch := first | exact cat_i _ | exact cat_r _ | exact cat_n | omega) only [e141, u141_0, u141_1, u141_2, u141_3, u141_4, u141_5, u141_8, u141_9, u141_10, u141_11, u141_14, u141_15, u141_16, u141_17, u141_18, u141_21, u141_24, u141_25, u141_26, u141_29, u141_32, u141_33, u141_36, u141_37, u141_39, u141_41, u141_44, u141_45, u141_46, u141_49, u141_52, u141_53, u141_56, u141_59, u141_61, hT_102, e1, e140, e139, e118, e118', e135, Bool.and_self, Bool.true_or, if_pos, if_neg, ↓reduceIte, false_and, and_false, false_or, or_false, ite_not, decide_true, decide_false, Bool.true_eq_false, Bool.false_eq_true, decide_eq_true_eq, decide_eq_false_iff_not, hp_I, hp_sI, hp_N, ev_k_s, ev_k_n, true_and, and_true, true_or, or_true, not_true_eq_false, not_false_eq_true, if_true, if_false, ite_self, Option.some.injEq, exists_eq_left', nb_0, nb_1, nb_z, zI_t, zI_f, zI_e, cat_i, cat_r, cat_n, iI_add, iI_sub, iI_mul, iI_neg, iI_lt, iI_le, iI_eq, iI_idx, iI_inT, iI_ne0, ite_false, ite_true, iN_0, iN_1, Int.reduceAdd, Int.reduceSub, Int.reduceMul, Int.reduceNeg, Int.reduceDiv, Int.reduceMod, Int.reduceEq, Int.reduceLT, Int.reduceLE, Int.reduceToNat, Nat.reduceAdd, Nat.reduceSub, Nat.reduceMul, Nat.reduceLT, Nat.reduceLeDiff, Nat.reduceEqDiff, Int.cast_ofNat_Int, Std.le_refl, and_self, Int.toNat_natCast, Int.toNat_zero, Nat.le_refl]
/-- listsAll -/
theorem c142 (hr : RepS I 103 0 S) (hVS : VS S) : ∃ J, (∀ Q : Option Value → fb_H → Prop, ev_c 142 [.ref 102] (hp L σ I) Q = Q none (hp L σ J)) ∧ (∀ c, c < S.2.length → RepL J c (chl S c)) ∧ OthM I J := by
  have hl := hVS.2.2.2.1
  obtain ⟨J, ⟨p1, p2⟩, e⟩ := lx (fun Q (A : Nat → Nat → Int32) (k : Nat) => ev_w 142 2 [.ref 102, .int (iI (k : Int))] [] (hp L σ A) Q) (fun A k => (∀ c, c < k → RepL A c (chl S c)) ∧ OthM I A) S.2.length (fun A k hk hp' => by
    obtain ⟨j1, j2⟩ := hp'
    have hrA : RepS A 103 0 S := RepS_o hr fun q => j2 _ _ (by omega)
    have h0 := hrA.1
    have keep : ∀ B : Nat → Nat → Int32, RepL B k (chl S k) → FrL A B k → (∀ c, c < k + 1 → RepL B c (chl S c)) ∧ OthM I B := fun B h1 h2 => by
      refine ⟨fun c hc => ?_, fun i q hi => (h2 i q (by omega) (by omega) (by omega) (by omega)).trans (j2 i q hi)⟩
      by_cases q : c = k
      · subst q; exact h1
      · exact RepL_o (j1 c (by omega)) (h2 _ _ (by omega) (by omega) (by omega) (by omega)) fun q a1 a2 => h2 _ _ (by omega) (by omega) (by omega) (by omega)
    have e118 := fun Q => c118 (L := L) (σ := σ) (Q := Q) hrA hl hk
    cases hw : (ch S k).2.2 with
    | none =>
      have hc : chl S k = wys S k := by unfold chl; rw [hw]
      rw [hw, Option.isSome_none] at e118
      obtain ⟨B, b1, b2, b3⟩ := c138 (L := L) (σ := σ) hrA hVS hk
      refine ⟨B, keep B (by rw [hc]; exact b2) b3, fun Q => ?_⟩
      show ev_w 142 2 [.ref 102, .int (iI (k : Int))] [] (hp L σ A) Q = _
      rw [u142_2]
      simp (disch := first | exact cat_i _ | exact cat_r _ | exact cat_n | omega) only [u142_3, u142_4, u142_7, u142_8, u142_9, u142_12, u142_13, u142_14, u142_17, u142_20, u142_21, u142_24, u142_25, u142_26, u142_27, u142_28, u142_31, u142_34, u142_35, u142_36, u142_39, u142_40, u142_41, u142_42, u142_45, u142_46, u142_48, u142_49, u142_50, u142_51, u142_54, u142_55, u142_56, u142_57, u142_58, u142_59, u142_62, u142_63, u142_64, u142_67, u142_68, u142_69, u142_72, u142_75, hT_102, hT_103, hR_102_0, h0, e118, b1, if_pos, if_neg, ↓reduceIte, false_and, and_false, false_or, or_false, ite_not, decide_true, decide_false, Bool.true_eq_false, Bool.false_eq_true, decide_eq_true_eq, decide_eq_false_iff_not, hp_I, hp_sI, hp_N, ev_k_s, ev_k_n, true_and, and_true, true_or, or_true, not_true_eq_false, not_false_eq_true, if_true, if_false, ite_self, Option.some.injEq, exists_eq_left', nb_0, nb_1, nb_z, zI_t, zI_f, zI_e, cat_i, cat_r, cat_n, iI_add, iI_sub, iI_mul, iI_neg, iI_lt, iI_le, iI_eq, iI_idx, iI_inT, iI_ne0, ite_false, ite_true, iN_0, iN_1, Int.reduceAdd, Int.reduceSub, Int.reduceMul, Int.reduceNeg, Int.reduceDiv, Int.reduceMod, Int.reduceEq, Int.reduceLT, Int.reduceLE, Int.reduceToNat, Nat.reduceAdd, Nat.reduceSub, Nat.reduceMul, Nat.reduceLT, Nat.reduceLeDiff, Nat.reduceEqDiff, Int.cast_ofNat_Int, Std.le_refl, and_self, Int.toNat_natCast, Int.toNat_zero, Nat.le_refl]
      all_goals rfl
    | some v =>
      have hc : chl S k = [v] := by unfold chl; rw [hw]
      have hvv := (hVS.2.2.2.2 k hk).2.2.2 v hw
      rw [hw, Option.isSome_some] at e118
      have hrB : RepS (fb_u2 A 111 k (iI 1)) 103 0 S := RepS_o hrA fun q => u2_ne (by omega)
      have e3 := fun Q => c117_3 (L := L) (σ := σ) (Q := Q) hrB hl hk hw
      have e4 := fun Q => c117_4 (L := L) (σ := σ) (Q := Q) hrB hl hk hw
      have e5 := fun Q => c117_5 (L := L) (σ := σ) (Q := Q) hrB hl hk hw
      have f3 : (128 * (k : Int)).toNat = 128 * k := by omega
      obtain ⟨v1, v2, v3⟩ := id hvv
      refine ⟨fb_u2 (fb_u2 A 111 k (iI 1)) 110 (128 * k) (iI (enc v)), keep _ ⟨?_, ?_, ?_, fun j hj => ?_⟩ fun i q a1 a2 a3 a4 => ?_, fun Q => ?_⟩
      · rw [hc, u2_ne (by omega), u2_eq]; rfl
      · rw [hc]; show 1 ≤ 20; omega
      · rw [hc]; intro x hx; rw [List.mem_singleton.mp hx]; exact hvv
      · rw [hc] at hj ⊢
        have : j = 0 := by have : j < 1 := hj; omega
        subst this
        rw [Nat.add_zero, u2_eq]
        rfl
      · rw [u2_ne (by omega), u2_ne (by omega)]
      · show ev_w 142 2 [.ref 102, .int (iI (k : Int))] [] (hp L σ A) Q = _
        rw [u142_2]
        simp (disch := first | exact cat_i _ | exact cat_r _ | exact cat_n | omega) only [u142_3, u142_4, u142_7, u142_8, u142_9, u142_12, u142_13, u142_14, u142_17, u142_20, u142_21, u142_24, u142_25, u142_26, u142_27, u142_28, u142_31, u142_34, u142_35, u142_36, u142_39, u142_40, u142_41, u142_42, u142_45, u142_46, u142_48, u142_49, u142_50, u142_51, u142_54, u142_55, u142_56, u142_57, u142_58, u142_59, u142_62, u142_63, u142_64, u142_67, u142_68, u142_69, u142_72, u142_75, hT_102, hT_103, hT_110, hT_111, hR_102_0, hR_102_9, hR_102_10, h0, e118, e3, e4, e5, f3, if_pos, if_neg, ↓reduceIte, false_and, and_false, false_or, or_false, ite_not, decide_true, decide_false, Bool.true_eq_false, Bool.false_eq_true, decide_eq_true_eq, decide_eq_false_iff_not, hp_I, hp_sI, hp_N, ev_k_s, ev_k_n, true_and, and_true, true_or, or_true, not_true_eq_false, not_false_eq_true, if_true, if_false, ite_self, Option.some.injEq, exists_eq_left', nb_0, nb_1, nb_z, zI_t, zI_f, zI_e, cat_i, cat_r, cat_n, iI_add, iI_sub, iI_mul, iI_neg, iI_lt, iI_le, iI_eq, iI_idx, iI_inT, iI_ne0, ite_false, ite_true, iN_0, iN_1, Int.reduceAdd, Int.reduceSub, Int.reduceMul, Int.reduceNeg, Int.reduceDiv, Int.reduceMod, Int.reduceEq, Int.reduceLT, Int.reduceLE, Int.reduceToNat, Nat.reduceAdd, Nat.reduceSub, Nat.reduceMul, Nat.reduceLT, Nat.reduceLeDiff, Nat.reduceEqDiff, Int.cast_ofNat_Int, Std.le_refl, and_self, Int.toNat_natCast, Int.toNat_zero, Nat.le_refl]
        all_goals rfl) S.2.length 0 I (by omega) ⟨fun c h => absurd h (Nat.not_lt_zero c), fun _ _ _ => rfl⟩
  refine ⟨J, fun Q => ?_, p1, p2⟩
  have hrJ : RepS J 103 0 S := RepS_o hr fun q => p2 _ _ (by omega)
  have h0 := hrJ.1
  have e0 := e Q
  clear e
  simp (disch := first | exact cat_i _ | exact cat_r _ | exact cat_n | omega) only [u142_0, u142_1, e142, ↓reduceIte, false_and, and_false, false_or, or_false, ite_not, decide_true, decide_false, Bool.true_eq_false, Bool.false_eq_true, decide_eq_true_eq, decide_eq_false_iff_not, hp_I, hp_sI, hp_N, ev_k_s, ev_k_n, true_and, and_true, true_or, or_true, not_true_eq_false, not_false_eq_true, if_true, if_false, ite_self, Option.some.injEq, exists_eq_left', nb_0, nb_1, nb_z, zI_t, zI_f, zI_e, cat_i, cat_r, cat_n, iI_add, iI_sub, iI_mul, iI_neg, iI_lt, iI_le, iI_eq, iI_idx, iI_inT, iI_ne0, ite_false, ite_true, iN_0, iN_1, Int.reduceAdd, Int.reduceSub, Int.reduceMul, Int.reduceNeg, Int.reduceDiv, Int.reduceMod, Int.reduceEq, Int.reduceLT, Int.reduceLE, Int.reduceToNat, Nat.reduceAdd, Nat.reduceSub, Nat.reduceMul, Nat.reduceLT, Nat.reduceLeDiff, Nat.reduceEqDiff, Int.cast_ofNat_Int, Std.le_refl, and_self, Int.toNat_natCast, Int.toNat_zero, Nat.le_refl]
  refine Eq.trans e0 ?_
  simp (disch := first | exact cat_i _ | exact cat_r _ | exact cat_n | omega) only [u142_2, u142_3, u142_4, u142_7, u142_8, u142_9, u142_78, hT_102, hT_103, hR_102_0, h0, if_pos, if_neg, ↓reduceIte, false_and, and_false, false_or, or_false, ite_not, decide_true, decide_false, Bool.true_eq_false, Bool.false_eq_true, decide_eq_true_eq, decide_eq_false_iff_not, hp_I, hp_sI, hp_N, ev_k_s, ev_k_n, true_and, and_true, true_or, or_true, not_true_eq_false, not_false_eq_true, if_true, if_false, ite_self, Option.some.injEq, exists_eq_left', nb_0, nb_1, nb_z, zI_t, zI_f, zI_e, cat_i, cat_r, cat_n, iI_add, iI_sub, iI_mul, iI_neg, iI_lt, iI_le, iI_eq, iI_idx, iI_inT, iI_ne0, ite_false, ite_true, iN_0, iN_1, Int.reduceAdd, Int.reduceSub, Int.reduceMul, Int.reduceNeg, Int.reduceDiv, Int.reduceMod, Int.reduceEq, Int.reduceLT, Int.reduceLE, Int.reduceToNat, Nat.reduceAdd, Nat.reduceSub, Nat.reduceMul, Nat.reduceLT, Nat.reduceLeDiff, Nat.reduceEqDiff, Int.cast_ofNat_Int, Std.le_refl, and_self, Int.toNat_natCast, Int.toNat_zero, Nat.le_refl]
def RowM (S : Co) (J : Nat → Nat → Int32) (c k : Nat) : Prop := ∀ r, r < k → J 112 (128 * c + r) = iI ((tgc S c r).1 : Int)
theorem wst_1 {c q : Nat} {g : Nat → Nat} {a : Nat × Option Nat} (ha : a.1 ≤ 1000000) : (wst S c v g a q).1 = if (if g q < 1000000 then jnc S c v ((chl S (c + 1)).getD q (0, 0, 0)) + g q else 1000000) < a.1 then (if g q < 1000000 then jnc S c v ((chl S (c + 1)).getD q (0, 0, 0)) + g q else 1000000) else a.1 := by
  unfold wst jnc
  generalize (chl S (c + 1)).getD q (0, 0, 0) = w
  cases jok S c v w <;> by_cases q1 : g q < 1000000 <;> by_cases q2 : dst v w + g q < a.1
  all_goals simp only [q1, q2, Bool.false_eq_true, and_true, and_false, if_true, if_false]
  all_goals repeat' split
  all_goals first | rfl | (exfalso; omega)
/-- leastFrom -/
theorem c143 {c r : Nat} (hr : RepS I 103 0 S) (hVS : VS S) (hc : c < S.2.length) (hL : ∀ c, c < S.2.length → RepL I c (chl S c)) (hrr : r < (chl S c).length) (hG : c + 1 < S.2.length → RowM S I (c + 1) (chl S (c + 1)).length) : ∃ J, (∀ Q : Option Value → fb_H → Prop, ev_c 143 [.ref 102, .int (iI (c : Int)), .int (iI (r : Int))] (hp L σ I) Q = Q (some (.int (iI ((tgc S c r).1 : Int)))) (hp L σ J)) ∧ OthF I J := by
  have hl := hVS.2.2.2.1
  have h0 := hr.1
  by_cases hlast : c + 1 = S.2.length
  · refine ⟨I, fun Q => ?_, fun _ _ _ _ => rfl⟩
    rw [tgc_last hlast]
    simp (disch := first | exact cat_i _ | exact cat_r _ | exact cat_n | omega) only [e143, u143_0, u143_1, u143_2, u143_5, u143_6, u143_7, u143_8, u143_9, u143_12, u143_13, u143_16, u143_18, u143_19, u143_20, u143_22, u143_23, u143_24, u143_27, u143_28, u143_29, u143_30, u143_31, u143_112, u143_113, hT_102, hT_103, hR_102_0, h0, if_pos, if_neg, ↓reduceIte, false_and, and_false, false_or, or_false, ite_not, decide_true, decide_false, Bool.true_eq_false, Bool.false_eq_true, decide_eq_true_eq, decide_eq_false_iff_not, hp_I, hp_sI, hp_N, ev_k_s, ev_k_n, true_and, and_true, true_or, or_true, not_true_eq_false, not_false_eq_true, if_true, if_false, ite_self, Option.some.injEq, exists_eq_left', nb_0, nb_1, nb_z, zI_t, zI_f, zI_e, cat_i, cat_r, cat_n, iI_add, iI_sub, iI_mul, iI_neg, iI_lt, iI_le, iI_eq, iI_idx, iI_inT, iI_ne0, ite_false, ite_true, iN_0, iN_1, Int.reduceAdd, Int.reduceSub, Int.reduceMul, Int.reduceNeg, Int.reduceDiv, Int.reduceMod, Int.reduceEq, Int.reduceLT, Int.reduceLE, Int.reduceToNat, Nat.reduceAdd, Nat.reduceSub, Nat.reduceMul, Nat.reduceLT, Nat.reduceLeDiff, Nat.reduceEqDiff, Int.cast_ofNat_Int, Std.le_refl, and_self, Int.toNat_natCast, Int.toNat_zero, Nat.le_refl]
    all_goals rfl
  · have hc1 : c + 1 < S.2.length := by omega
    have hG1 := hG hc1
    have hL1 := hL (c + 1) hc1
    have h20 := hL1.2.1
    have h20' := (hL c hc).2.1
    rw [tgc_step hc1]
    generalize hgg : (fun q => (tgc S (c + 1) q).1) = g
    have hgq : ∀ q, (tgc S (c + 1) q).1 = g q := fun q => by rw [← hgg]
    generalize hV : (chl S c).getD r (0, 0, 0) = v
    have hvv : VV v := by rw [← hV]; exact RepL_in (hL c hc) hrr
    obtain ⟨⟨J, acc, x5, x6⟩, ⟨p1, p2, p3, p4, p5⟩, e⟩ := lx (fun Q (a : (Nat → Nat → Int32) × (Nat × Option Nat) × Value × Value) (k : Nat) => ev_w 143 22 [.ref 102, .int (iI (c : Int)), .int (iI (r : Int)), .int (iI (a.2.1.1 : Int)), .int (iI (k : Int)), a.2.2.1, a.2.2.2] [] (hp L σ a.1) Q) (fun a k => a.2.2.1.category = 1 ∧ a.2.2.2.category = 1 ∧ a.2.1.1 ≤ 1000000 ∧ a.2.1 = (List.range k).foldl (wst S c v g) (1000000, none) ∧ OthF I a.1) (chl S (c + 1)).length (fun a k hk hp' => by
      obtain ⟨A, acc, x5, x6⟩ := a
      obtain ⟨p1, p2, p3, p4, p5⟩ := hp'
      dsimp only at p1 p2 p3 p4 p5
      have hrA : RepS A 103 0 S := RepS_o hr fun q => p5 _ _ (by omega) (by omega)
      have h0A := hrA.1
      have hLA : ∀ c, c < S.2.length → RepL A c (chl S c) := fun c hc => RepL_o (hL c hc) (p5 _ _ (by omega) (by omega)) fun q _ _ => p5 _ _ (by omega) (by omega)
      have hn1 := (hLA (c + 1) hc1).1
      have hgA : A 112 (128 * c + 128 + k) = iI (g k : Int) := by
        rw [p5 _ _ (by omega) (by omega), show 128 * c + 128 + k = 128 * (c + 1) + k by omega, hG1 k hk, hgq]
      have hg6 : g k ≤ 1000000 := by rw [← hgq]; exact tgc_le ..
      have f1 : (128 * (c : Int) + 128 + (k : Int)).toNat = 128 * c + 128 + k := by omega
      have f2 : (c : Int) + 1 = ((c + 1 : Nat) : Int) := by omega
      have f4 : ((c + 1 : Nat) : Int).toNat = c + 1 := by omega
      obtain ⟨K, k1, k2⟩ := c141 (L := L) (σ := σ) hrA hVS hc1 (hLA c hc).2 (hLA (c + 1) hc1).2 hrr hk
      rw [hV] at k1
      have hw1 := wst_1 (S := S) (v := v) (c := c) (q := k) (g := g) p3
      have hfold : (List.range (k + 1)).foldl (wst S c v g) (1000000, none) = wst S c v g acc k := by rw [List.range_succ, List.foldl_append, ← p4]; rfl
      have hle := wst_le S c v g acc k p3
      have hww := RepL_in hL1 hk
      have hd := dst_lt hvv hww
      have hj : jnc S c v ((chl S (c + 1)).getD k (0, 0, 0)) ≤ 1000000 := by unfold jnc; split <;> omega
      generalize jnc S c v ((chl S (c + 1)).getD k (0, 0, 0)) = jj at *
      by_cases q1 : g k < 1000000
      · rw [if_pos q1] at hw1
        by_cases q2 : jj + g k < acc.1
        · rw [if_pos q2] at hw1
          refine ⟨(K, wst S c v g acc k, .int (iI (g k : Int)), .int (iI ((jj : Int) + (g k : Int)))), ⟨cat_i _, cat_i _, hle, hfold.symm, fun i q a b => (k2 i q a b).trans (p5 i q a b)⟩, fun Q => ?_⟩
          show ev_w 143 22 [.ref 102, .int (iI (c : Int)), .int (iI (r : Int)), .int (iI (acc.1 : Int)), .int (iI (k : Int)), x5, x6] [] (hp L σ A) Q = ev_w 143 22 [.ref 102, .int (iI (c : Int)), .int (iI (r : Int)), .int (iI ((wst S c v g acc k).1 : Int)), .int (iI ((k + 1 : Nat) : Int)), .int (iI (g k : Int)), .int (iI ((jj : Int) + (g k : Int)))] [] (hp L σ K) Q
          rw [hw1, u143_22]
          simp (disch := first | exact p1 | exact p2 | exact cat_i _ | exact cat_r _ | omega) only [u143_23, u143_24, u143_27, u143_28, u143_29, u143_30, u143_31, u143_34, u143_36, u143_37, u143_40, u143_41, u143_42, u143_43, u143_44, u143_47, u143_48, u143_51, u143_54, u143_55, u143_56, u143_59, u143_60, u143_62, u143_63, u143_64, u143_66, u143_68, u143_70, u143_73, u143_74, u143_75, u143_76, u143_77, u143_78, u143_80, u143_83, u143_85, u143_86, u143_89, u143_91, u143_93, u143_95, u143_96, u143_99, u143_101, u143_104, u143_105, u143_106, u143_109, hT_102, hT_103, hT_111, hT_112, hR_102_0, hR_102_10, hR_102_11, h0A, f1, f2, f4, hn1, hgA, k1, if_pos, if_neg, ↓reduceIte, false_and, and_false, false_or, or_false, ite_not, decide_true, decide_false, Bool.true_eq_false, Bool.false_eq_true, decide_eq_true_eq, decide_eq_false_iff_not, hp_I, hp_sI, hp_N, ev_k_s, ev_k_n, true_and, and_true, true_or, or_true, not_true_eq_false, not_false_eq_true, if_true, if_false, ite_self, Option.some.injEq, exists_eq_left', nb_0, nb_1, nb_z, zI_t, zI_f, zI_e, cat_i, cat_r, cat_n, iI_add, iI_sub, iI_mul, iI_neg, iI_lt, iI_le, iI_eq, iI_idx, iI_inT, iI_ne0, ite_false, ite_true, iN_0, iN_1, Int.reduceAdd, Int.reduceSub, Int.reduceMul, Int.reduceNeg, Int.reduceDiv, Int.reduceMod, Int.reduceEq, Int.reduceLT, Int.reduceLE, Int.reduceToNat, Nat.reduceAdd, Nat.reduceSub, Nat.reduceMul, Nat.reduceLT, Nat.reduceLeDiff, Nat.reduceEqDiff, Int.cast_ofNat_Int, Std.le_refl, and_self, Int.toNat_natCast, Int.toNat_zero, Nat.le_refl]
          all_goals rfl
        · rw [if_neg q2] at hw1
          refine ⟨(K, wst S c v g acc k, .int (iI (g k : Int)), .int (iI ((jj : Int) + (g k : Int)))), ⟨cat_i _, cat_i _, hle, hfold.symm, fun i q a b => (k2 i q a b).trans (p5 i q a b)⟩, fun Q => ?_⟩
          show ev_w 143 22 [.ref 102, .int (iI (c : Int)), .int (iI (r : Int)), .int (iI (acc.1 : Int)), .int (iI (k : Int)), x5, x6] [] (hp L σ A) Q = ev_w 143 22 [.ref 102, .int (iI (c : Int)), .int (iI (r : Int)), .int (iI ((wst S c v g acc k).1 : Int)), .int (iI ((k + 1 : Nat) : Int)), .int (iI (g k : Int)), .int (iI ((jj : Int) + (g k : Int)))] [] (hp L σ K) Q
          rw [hw1, u143_22]
          simp (disch := first | exact p1 | exact p2 | exact cat_i _ | exact cat_r _ | omega) only [u143_23, u143_24, u143_27, u143_28, u143_29, u143_30, u143_31, u143_34, u143_36, u143_37, u143_40, u143_41, u143_42, u143_43, u143_44, u143_47, u143_48, u143_51, u143_54, u143_55, u143_56, u143_59, u143_60, u143_62, u143_63, u143_64, u143_66, u143_68, u143_70, u143_73, u143_74, u143_75, u143_76, u143_77, u143_78, u143_80, u143_83, u143_85, u143_86, u143_89, u143_91, u143_93, u143_95, u143_96, u143_99, u143_101, u143_104, u143_105, u143_106, u143_109, hT_102, hT_103, hT_111, hT_112, hR_102_0, hR_102_10, hR_102_11, h0A, f1, f2, f4, hn1, hgA, k1, if_pos, if_neg, ↓reduceIte, false_and, and_false, false_or, or_false, ite_not, decide_true, decide_false, Bool.true_eq_false, Bool.false_eq_true, decide_eq_true_eq, decide_eq_false_iff_not, hp_I, hp_sI, hp_N, ev_k_s, ev_k_n, true_and, and_true, true_or, or_true, not_true_eq_false, not_false_eq_true, if_true, if_false, ite_self, Option.some.injEq, exists_eq_left', nb_0, nb_1, nb_z, zI_t, zI_f, zI_e, cat_i, cat_r, cat_n, iI_add, iI_sub, iI_mul, iI_neg, iI_lt, iI_le, iI_eq, iI_idx, iI_inT, iI_ne0, ite_false, ite_true, iN_0, iN_1, Int.reduceAdd, Int.reduceSub, Int.reduceMul, Int.reduceNeg, Int.reduceDiv, Int.reduceMod, Int.reduceEq, Int.reduceLT, Int.reduceLE, Int.reduceToNat, Nat.reduceAdd, Nat.reduceSub, Nat.reduceMul, Nat.reduceLT, Nat.reduceLeDiff, Nat.reduceEqDiff, Int.cast_ofNat_Int, Std.le_refl, and_self, Int.toNat_natCast, Int.toNat_zero, Nat.le_refl]
          all_goals rfl
      · rw [if_neg q1, if_neg (by omega)] at hw1
        refine ⟨(A, wst S c v g acc k, .int (iI (g k : Int)), .int (iI 1000000)), ⟨cat_i _, cat_i _, hle, hfold.symm, p5⟩, fun Q => ?_⟩
        show ev_w 143 22 [.ref 102, .int (iI (c : Int)), .int (iI (r : Int)), .int (iI (acc.1 : Int)), .int (iI (k : Int)), x5, x6] [] (hp L σ A) Q = ev_w 143 22 [.ref 102, .int (iI (c : Int)), .int (iI (r : Int)), .int (iI ((wst S c v g acc k).1 : Int)), .int (iI ((k + 1 : Nat) : Int)), .int (iI (g k : Int)), .int (iI 1000000)] [] (hp L σ A) Q
        rw [hw1, u143_22]
        simp (disch := first | exact p1 | exact p2 | exact cat_i _ | exact cat_r _ | omega) only [u143_23, u143_24, u143_27, u143_28, u143_29, u143_30, u143_31, u143_34, u143_36, u143_37, u143_40, u143_41, u143_42, u143_43, u143_44, u143_47, u143_48, u143_51, u143_54, u143_55, u143_56, u143_59, u143_60, u143_62, u143_63, u143_64, u143_66, u143_68, u143_70, u143_73, u143_74, u143_75, u143_76, u143_77, u143_78, u143_80, u143_83, u143_85, u143_86, u143_89, u143_91, u143_93, u143_95, u143_96, u143_99, u143_101, u143_104, u143_105, u143_106, u143_109, hT_102, hT_103, hT_111, hT_112, hR_102_0, hR_102_10, hR_102_11, h0A, f1, f2, f4, hn1, hgA, if_pos, if_neg, ↓reduceIte, false_and, and_false, false_or, or_false, ite_not, decide_true, decide_false, Bool.true_eq_false, Bool.false_eq_true, decide_eq_true_eq, decide_eq_false_iff_not, hp_I, hp_sI, hp_N, ev_k_s, ev_k_n, true_and, and_true, true_or, or_true, not_true_eq_false, not_false_eq_true, if_true, if_false, ite_self, Option.some.injEq, exists_eq_left', nb_0, nb_1, nb_z, zI_t, zI_f, zI_e, cat_i, cat_r, cat_n, iI_add, iI_sub, iI_mul, iI_neg, iI_lt, iI_le, iI_eq, iI_idx, iI_inT, iI_ne0, ite_false, ite_true, iN_0, iN_1, Int.reduceAdd, Int.reduceSub, Int.reduceMul, Int.reduceNeg, Int.reduceDiv, Int.reduceMod, Int.reduceEq, Int.reduceLT, Int.reduceLE, Int.reduceToNat, Nat.reduceAdd, Nat.reduceSub, Nat.reduceMul, Nat.reduceLT, Nat.reduceLeDiff, Nat.reduceEqDiff, Int.cast_ofNat_Int, Std.le_refl, and_self, Int.toNat_natCast, Int.toNat_zero, Nat.le_refl]
        all_goals rfl) (chl S (c + 1)).length 0 (I, (1000000, none), .null, .null) (by omega) ⟨rfl, rfl, Nat.le_refl _, rfl, fun _ _ _ _ => rfl⟩
    dsimp only at p1 p2 p3 p4 p5
    have hacc : acc = wgh S c v g := p4
    rw [← hacc]
    refine ⟨J, fun Q => ?_, p5⟩
    have hrJ : RepS J 103 0 S := RepS_o hr fun q => p5 _ _ (by omega) (by omega)
    have h0J := hrJ.1
    have hn1 : J 111 (c + 1) = iI ((chl S (c + 1)).length : Int) := (p5 _ _ (by omega) (by omega)).trans hL1.1
    have f2 : (c : Int) + 1 = ((c + 1 : Nat) : Int) := by omega
    have f4 : ((c + 1 : Nat) : Int).toNat = c + 1 := by omega
    have e0 := e Q
    clear e
    simp (disch := first | exact cat_i _ | exact cat_r _ | exact cat_n | omega) only [u143_0, u143_1, u143_2, u143_5, u143_6, u143_7, u143_8, u143_9, u143_12, u143_13, u143_16, u143_18, u143_19, u143_20, e143, hT_102, hT_103, hR_102_0, h0, if_pos, if_neg, ↓reduceIte, false_and, and_false, false_or, or_false, ite_not, decide_true, decide_false, Bool.true_eq_false, Bool.false_eq_true, decide_eq_true_eq, decide_eq_false_iff_not, hp_I, hp_sI, hp_N, ev_k_s, ev_k_n, true_and, and_true, true_or, or_true, not_true_eq_false, not_false_eq_true, if_true, if_false, ite_self, Option.some.injEq, exists_eq_left', nb_0, nb_1, nb_z, zI_t, zI_f, zI_e, cat_i, cat_r, cat_n, iI_add, iI_sub, iI_mul, iI_neg, iI_lt, iI_le, iI_eq, iI_idx, iI_inT, iI_ne0, ite_false, ite_true, iN_0, iN_1, Int.reduceAdd, Int.reduceSub, Int.reduceMul, Int.reduceNeg, Int.reduceDiv, Int.reduceMod, Int.reduceEq, Int.reduceLT, Int.reduceLE, Int.reduceToNat, Nat.reduceAdd, Nat.reduceSub, Nat.reduceMul, Nat.reduceLT, Nat.reduceLeDiff, Nat.reduceEqDiff, Int.cast_ofNat_Int, Std.le_refl, and_self, Int.toNat_natCast, Int.toNat_zero, Nat.le_refl]
    refine Eq.trans e0 ?_
    simp (disch := first | exact p1 | exact p2 | exact cat_i _ | exact cat_r _ | omega) only [u143_22, u143_23, u143_24, u143_27, u143_28, u143_29, u143_30, u143_31, u143_34, u143_36, u143_37, u143_40, u143_41, u143_42, u143_43, u143_44, u143_112, u143_113, hT_102, hT_103, hT_111, hR_102_0, hR_102_10, h0J, f2, f4, hn1, if_pos, if_neg, ↓reduceIte, false_and, and_false, false_or, or_false, ite_not, decide_true, decide_false, Bool.true_eq_false, Bool.false_eq_true, decide_eq_true_eq, decide_eq_false_iff_not, hp_I, hp_sI, hp_N, ev_k_s, ev_k_n, true_and, and_true, true_or, or_true, not_true_eq_false, not_false_eq_true, if_true, if_false, ite_self, Option.some.injEq, exists_eq_left', nb_0, nb_1, nb_z, zI_t, zI_f, zI_e, cat_i, cat_r, cat_n, iI_add, iI_sub, iI_mul, iI_neg, iI_lt, iI_le, iI_eq, iI_idx, iI_inT, iI_ne0, ite_false, ite_true, iN_0, iN_1, Int.reduceAdd, Int.reduceSub, Int.reduceMul, Int.reduceNeg, Int.reduceDiv, Int.reduceMod, Int.reduceEq, Int.reduceLT, Int.reduceLE, Int.reduceToNat, Nat.reduceAdd, Nat.reduceSub, Nat.reduceMul, Nat.reduceLT, Nat.reduceLeDiff, Nat.reduceEqDiff, Int.cast_ofNat_Int, Std.le_refl, and_self, Int.toNat_natCast, Int.toNat_zero, Nat.le_refl]
end MJ
