theorem lks {α : Type} (W : α → Nat → Prop) (X : Prop) (c : Nat → Bool) (f : α → Nat → α) (P : α → Prop) (N : Nat) (st : ∀ a k, k < N → P a → P (f a k) ∧ W a k = if c k = true then W (f a k) (k + 1) else X) : ∀ j k a, k + j = N → P a → ∃ a', P a' ∧ W a k = if (List.range' k j).all c = true then W a' N else X := by
  intro j
  induction j with
  | zero =>
    intro k a e p
    cases (show k = N by omega)
    exact ⟨a, p, rfl⟩
  | succ j ih =>
    intro k a e p
    obtain ⟨p2, e2⟩ := st a k (by omega) p
    obtain ⟨a', p3, e3⟩ := ih (k + 1) (f a k) (by omega) p2
    refine ⟨a', p3, ?_⟩
    rw [e2, e3, List.range'_succ, List.all_cons]
    cases c k <;> rfl
def mvk (S : Co) (z : Int) (k : Nat) : Bool := decide (36 ≤ ((ch S k).1 : Int) + z ∧ ((ch S k).1 : Int) + z ≤ 59) && (match (ch S k).2.2 with
  | some v => decide ((0 ≤ (v.1 : Int) + z ∧ (v.1 : Int) + z ≤ 99) ∧ (0 ≤ (v.2.1 : Int) + z ∧ (v.2.1 : Int) + z ≤ 99) ∧ (0 ≤ (v.2.2 : Int) + z ∧ (v.2.2 : Int) + z ≤ 99))
  | none => true)
def mvo (S : Co) (z : Int) : Bool := (List.range S.2.length).all (mvk S z)
section MV
variable {Q : Option Value → fb_H → Prop} {c d z : Int} {n m b b' : Nat} {v w : Nat × Nat × Nat} {L t t' : Nat} {σ : Nat → Nat} {I : Nat → Nat → Int32} {S : Co}
/-- canMove -/
theorem c45i (ht : isp t) (hr : RepP I t S) (hv : VS S) (hs : StI I) (hz1 : -12 ≤ z) (hz2 : z ≤ 12) (hn : n < S.2.length) {x : Value} (hx : x.category = 1) : ev_w 45 2 [.ref t, .int (iI z), .int (iI (n : Int)), x] [] (hp L σ I) Q = if mvk S z n = true then ev_w 45 2 [.ref t, .int (iI z), .int (iI ((n : Int) + 1)), .int (if (ch S n).2.2.isSome then iI 4 else iI 1)] [] (hp L σ I) Q else Q (some (.int (iI 0))) (hp L σ I) := by
  have hl := hv.2.2.2.1
  have h4 := hr.2.2.2.1
  have hb := hv.2.2.2.2 n hn
  have hb1 := hb.1
  have hb2 := hb.2.1
  obtain ⟨r1, r2, r3⟩ := hr.2.2.2.2 n hn
  rw [u45_2]
  by_cases q1 : 36 ≤ ((ch S n).1 : Int) + z ∧ ((ch S n).1 : Int) + z ≤ 59
  · cases hw : (ch S n).2.2 with
    | none =>
      simp (disch := first | exact hx | exact cat_i _ | omega) only [u45_3, u45_4, u45_7, u45_10, u45_11, u45_14, u45_15, u45_16, u45_17, u45_18, u45_21, u45_24, u45_25, u45_26, u45_27, u45_28, u45_29, u45_30, u45_33, u45_36, u45_37, u45_38, u45_41, u45_42, u45_45, u45_46, u45_47, u45_48, u45_51, u45_52, u45_53, u45_56, u45_59, u45_60, u45_61, u45_64, u45_67, u45_70, hT_p ht, hT_p2 ht, hR_p1 ht, h4, r1, c103 hs, c32 ht hr hv hn, hw, zI_dt q1, Option.isSome_none, mvk, q1, Bool.and_true, if_pos, if_neg, ↓reduceIte, false_and, and_false, false_or, or_false, ite_not, decide_true, decide_false, Bool.true_eq_false, Bool.false_eq_true, decide_eq_true_eq, decide_eq_false_iff_not, hp_I, hp_sI, hp_N, ev_k_s, ev_k_n, true_and, and_true, true_or, or_true, not_true_eq_false, not_false_eq_true, if_true, if_false, ite_self, Option.some.injEq, exists_eq_left', nb_0, nb_1, nb_z, zI_t, zI_f, zI_e, cat_i, cat_r, cat_n, iI_add, iI_sub, iI_mul, iI_neg, iI_lt, iI_le, iI_eq, iI_idx, iI_inT, iI_ne0, ite_false, ite_true, iN_0, iN_1, Int.reduceAdd, Int.reduceSub, Int.reduceMul, Int.reduceNeg, Int.reduceDiv, Int.reduceMod, Int.reduceEq, Int.reduceLT, Int.reduceLE, Int.reduceToNat, Nat.reduceAdd, Nat.reduceSub, Nat.reduceMul, Nat.reduceLT, Nat.reduceLeDiff, Nat.reduceEqDiff, Int.cast_ofNat_Int, Std.le_refl, and_self, Int.toNat_natCast, Int.toNat_zero, Nat.le_refl]
    | some v =>
      have hvv := hb.2.2.2 v hw
      obtain ⟨v1, v2, v3⟩ := id hvv
      rw [hw] at r3
      simp only [pkO, pk0] at r3
      simp (disch := first | exact hx | exact cat_i _ | omega) only [u45_3, u45_4, u45_7, u45_10, u45_11, u45_14, u45_15, u45_16, u45_17, u45_18, u45_21, u45_24, u45_25, u45_26, u45_27, u45_28, u45_29, u45_30, u45_33, u45_36, u45_37, u45_38, u45_41, u45_42, u45_45, u45_46, u45_47, u45_48, u45_51, u45_52, u45_53, u45_56, u45_59, u45_60, u45_61, u45_64, u45_67, u45_70, hT_p ht, hT_p2 ht, hR_p1 ht, hT_p4 ht, hR_p3 ht, h4, r1, r3, c103 hs, c32 ht hr hv hn, c110_1 (Nat.zero_le 127) hvv, c110_2 (Nat.zero_le 127) hvv, c110_3 (Nat.zero_le 127) hvv, c104, hw, zI_dt q1, Option.isSome_some, mvk, q1, Bool.true_and, if_pos, if_neg, ↓reduceIte, false_and, and_false, false_or, or_false, ite_not, decide_true, decide_false, Bool.true_eq_false, Bool.false_eq_true, decide_eq_true_eq, decide_eq_false_iff_not, hp_I, hp_sI, hp_N, ev_k_s, ev_k_n, true_and, and_true, true_or, or_true, not_true_eq_false, not_false_eq_true, if_true, if_false, ite_self, Option.some.injEq, exists_eq_left', nb_0, nb_1, nb_z, zI_t, zI_f, zI_e, cat_i, cat_r, cat_n, iI_add, iI_sub, iI_mul, iI_neg, iI_lt, iI_le, iI_eq, iI_idx, iI_inT, iI_ne0, ite_false, ite_true, iN_0, iN_1, Int.reduceAdd, Int.reduceSub, Int.reduceMul, Int.reduceNeg, Int.reduceDiv, Int.reduceMod, Int.reduceEq, Int.reduceLT, Int.reduceLE, Int.reduceToNat, Nat.reduceAdd, Nat.reduceSub, Nat.reduceMul, Nat.reduceLT, Nat.reduceLeDiff, Nat.reduceEqDiff, Int.cast_ofNat_Int, Std.le_refl, and_self, Int.toNat_natCast, Int.toNat_zero, Nat.le_refl]
      repeat' split
      all_goals first | rfl | (exfalso; omega)
  · simp (disch := first | exact hx | exact cat_i _ | omega) only [u45_3, u45_4, u45_7, u45_10, u45_11, u45_14, u45_15, u45_16, u45_17, u45_18, u45_21, u45_24, u45_25, hT_p ht, hT_p2 ht, hR_p1 ht, h4, r1, c103 hs, zI_df q1, mvk, q1, Bool.false_and, if_pos, if_neg, ↓reduceIte, false_and, and_false, false_or, or_false, ite_not, decide_true, decide_false, Bool.true_eq_false, Bool.false_eq_true, decide_eq_true_eq, decide_eq_false_iff_not, hp_I, hp_sI, hp_N, ev_k_s, ev_k_n, true_and, and_true, true_or, or_true, not_true_eq_false, not_false_eq_true, if_true, if_false, ite_self, Option.some.injEq, exists_eq_left', nb_0, nb_1, nb_z, zI_t, zI_f, zI_e, cat_i, cat_r, cat_n, iI_add, iI_sub, iI_mul, iI_neg, iI_lt, iI_le, iI_eq, iI_idx, iI_inT, iI_ne0, ite_false, ite_true, iN_0, iN_1, Int.reduceAdd, Int.reduceSub, Int.reduceMul, Int.reduceNeg, Int.reduceDiv, Int.reduceMod, Int.reduceEq, Int.reduceLT, Int.reduceLE, Int.reduceToNat, Nat.reduceAdd, Nat.reduceSub, Nat.reduceMul, Nat.reduceLT, Nat.reduceLeDiff, Nat.reduceEqDiff, Int.cast_ofNat_Int, Std.le_refl, and_self, Int.toNat_natCast, Int.toNat_zero, Nat.le_refl]
theorem c45 (ht : isp t) (hr : RepP I t S) (hv : VS S) (hs : StI I) (hz1 : -12 ≤ z) (hz2 : z ≤ 12) : ev_c 45 [.ref t, .int (iI z)] (hp L σ I) Q = Q (some (.int (zI (mvo S z)))) (hp L σ I) := by
  have hl := hv.2.2.2.1
  have h4 := hr.2.2.2.1
  obtain ⟨x, hx, e⟩ := lks (fun (x : Value) (k : Nat) => ev_w 45 2 [.ref t, .int (iI z), .int (iI (k : Int)), x] [] (hp L σ I) Q) (Q (some (.int (iI 0))) (hp L σ I)) (mvk S z) (fun _ k => .int (if (ch S k).2.2.isSome then iI 4 else iI 1)) (fun x => x.category = 1) S.2.length (fun x k hk hx => ⟨cat_i _, c45i ht hr hv hs hz1 hz2 hk hx⟩) S.2.length 0 .null (by omega) rfl
  rw [e45, u45_0, u45_1 rfl]
  refine e.trans ?_
  unfold mvo
  rw [← List.range_eq_range']
  simp (disch := first | exact cat_i _ | exact cat_r _ | exact cat_n | omega) only [u45_2, u45_3, u45_4, u45_7, u45_73, u45_74, hT_p ht, h4, if_pos, if_neg, ↓reduceIte, false_and, and_false, false_or, or_false, ite_not, decide_true, decide_false, Bool.true_eq_false, Bool.false_eq_true, decide_eq_true_eq, decide_eq_false_iff_not, hp_I, hp_sI, hp_N, ev_k_s, ev_k_n, true_and, and_true, true_or, or_true, not_true_eq_false, not_false_eq_true, if_true, if_false, ite_self, Option.some.injEq, exists_eq_left', nb_0, nb_1, nb_z, zI_t, zI_f, zI_e, cat_i, cat_r, cat_n, iI_add, iI_sub, iI_mul, iI_neg, iI_lt, iI_le, iI_eq, iI_idx, iI_inT, iI_ne0, ite_false, ite_true, iN_0, iN_1, Int.reduceAdd, Int.reduceSub, Int.reduceMul, Int.reduceNeg, Int.reduceDiv, Int.reduceMod, Int.reduceEq, Int.reduceLT, Int.reduceLE, Int.reduceToNat, Nat.reduceAdd, Nat.reduceSub, Nat.reduceMul, Nat.reduceLT, Nat.reduceLeDiff, Nat.reduceEqDiff, Int.cast_ofNat_Int, Std.le_refl, and_self, Int.toNat_natCast, Int.toNat_zero, Nat.le_refl]
  cases (List.range S.2.length).all (mvk S z) <;> rfl
end MV
