section MC
variable {L : Nat} {σ : Nat → Nat} {I J K : Nat → Nat → Int32} {Q : Option Value → fb_H → Prop} {h : fb_H} {x y z p q r iv : Int} {S : Co} {n m a o a' o' b b' f : Nat} {v w : Nat × Nat × Nat} {A : AS} {H : List Co}
/-- takeOut -/
theorem m152 (hM : RepM I A) (hA : AV A) (hx1 : -2147483648 ≤ x) (hx2 : x < 2147483648) : MR L σ I 152 [.ref 102, .int (iI x)] (opOut A x) := by
  have hl := hA.1.2.2.2.1
  have e116 := fun Q => c116 (L := L) (σ := σ) (Q := Q) hM.1 hl hx1 hx2
  unfold opOut
  split
  · rename_i hh
    obtain ⟨n, rfl⟩ := Int.eq_ofNat_of_zero_le hh.1
    have hn : n < A.1.2.length := by omega
    obtain ⟨J, j1, j2, j3, j4⟩ := mchg (L := L) (σ := σ) hM hA
    obtain ⟨s0, s1, s2, s3⟩ := RepS_0 j2
    simp only [Int.toNat_natCast]
    generalize hlen : A.1.2.length = len at *
    have g0 : fb_u2 J 103 0 (iI ((len : Int) - 1)) 103 0 = iI ((len : Int) - 1) := u2_eq
    obtain ⟨K, ⟨p1, p2⟩, e⟩ := lx (fun Q (B : Nat → Nat → Int32) (k : Nat) => ev_w 152 31 [.ref 102, .int (iI (n : Int)), .int (iI ((1 + 6 * n + k : Nat) : Int))] [] (hp L σ B) Q) (fun B k => (∀ i q, i ≠ 103 → B i q = J i q) ∧ ∀ q, B 103 q = if 1 + 6 * n ≤ q ∧ q < 1 + 6 * n + k then J 103 (q + 6) else fb_u2 J 103 0 (iI ((len : Int) - 1)) 103 q) (6 * (len - 1 - n)) (fun B k hk hp' => by
      obtain ⟨p1, p2⟩ := hp'
      have f1 : ((1 + 6 * n + k : Nat) : Int) + 6 = ((1 + 6 * n + k + 6 : Nat) : Int) := by omega
      have f2 : ((1 + 6 * n + k : Nat) : Int) + 1 = ((1 + 6 * n + (k + 1) : Nat) : Int) := by omega
      have f3 : ((1 + 6 * n + k + 6 : Nat) : Int).toNat = 1 + 6 * n + k + 6 := by omega
      have f4 : ((1 + 6 * n + k : Nat) : Int).toNat = 1 + 6 * n + k := by omega
      have b0 : B 103 0 = iI ((len : Int) - 1) := by rw [p2, if_neg (by omega)]; exact u2_eq
      refine ⟨fb_u2 B 103 (1 + 6 * n + k) (B 103 (1 + 6 * n + k + 6)), ⟨fun i q a => (u2_ne (by omega)).trans (p1 i q a), fun q => ?_⟩, fun Q => ?_⟩
      · by_cases e : q = 1 + 6 * n + k
        · subst e
          rw [u2_eq, p2, if_neg (by omega), if_pos (by omega), u2_ne (by omega)]
        · rw [u2_ne (by omega), p2]
          by_cases e2 : 1 + 6 * n ≤ q ∧ q < 1 + 6 * n + k
          · rw [if_pos e2, if_pos (by omega)]
          · rw [if_neg e2, if_neg (by omega)]
      · show ev_w 152 31 [.ref 102, .int (iI (n : Int)), .int (iI ((1 + 6 * n + k : Nat) : Int))] [] (hp L σ B) Q = _
        rw [u152_31]
        simp (disch := first | exact cat_i _ | exact cat_r _ | exact cat_n | omega) only [u152_32, u152_33, u152_35, u152_36, u152_39, u152_40, u152_41, u152_42, u152_43, u152_46, u152_47, u152_50, u152_51, u152_52, u152_55, u152_56, u152_58, u152_59, u152_60, u152_61, u152_64, hT_102, hT_103, hR_102_0, b0, f1, f2, f3, f4, if_pos, if_neg, ↓reduceIte, false_and, and_false, false_or, or_false, ite_not, decide_true, decide_false, Bool.true_eq_false, Bool.false_eq_true, decide_eq_true_eq, decide_eq_false_iff_not, hp_I, hp_sI, hp_N, ev_k_s, ev_k_n, true_and, and_true, true_or, or_true, not_true_eq_false, not_false_eq_true, if_true, if_false, ite_self, Option.some.injEq, exists_eq_left', nb_0, nb_1, nb_z, zI_t, zI_f, zI_e, cat_i, cat_r, cat_n, iI_add, iI_sub, iI_mul, iI_neg, iI_lt, iI_le, iI_eq, iI_idx, iI_inT, iI_ne0, ite_false, ite_true, iN_0, iN_1, Int.reduceAdd, Int.reduceSub, Int.reduceMul, Int.reduceNeg, Int.reduceDiv, Int.reduceMod, Int.reduceEq, Int.reduceLT, Int.reduceLE, Int.reduceToNat, Nat.reduceAdd, Nat.reduceSub, Nat.reduceMul, Nat.reduceLT, Nat.reduceLeDiff, Nat.reduceEqDiff, Int.cast_ofNat_Int, Std.le_refl, and_self, Int.toNat_natCast, Int.toNat_zero, Nat.le_refl]) (6 * (len - 1 - n)) 0 (fb_u2 J 103 0 (iI ((len : Int) - 1))) (by omega) ⟨fun i q a => u2_ne (by omega), fun q => by rw [if_neg (by omega)]⟩
    have k0 : K 103 0 = iI ((len : Int) - 1) := by rw [p2, if_neg (by omega)]; exact u2_eq
    have ho : ∀ q, 0 < q → K 103 q = if 1 + 6 * n ≤ q ∧ q < 1 + 6 * (len - 1) then J 103 (q + 6) else J 103 q := fun q a => by
      rw [p2, u2_ne (by omega), show 1 + 6 * n + 6 * (len - 1 - n) = 1 + 6 * (len - 1) by omega]
    have hRS : RepS K 103 0 (rem A.1 n) := by
      have hli := len_rem (S := A.1) (n := n) (by omega)
      refine RepS_mk (by rw [hli, k0, hlen]; congr 1; omega) ?_ ?_ ?_ fun c hc => ?_
      · rw [ho _ (by omega), if_neg (by omega)]; exact s1
      · rw [ho _ (by omega), if_neg (by omega)]; exact s2
      · rw [ho _ (by omega), if_neg (by omega)]; exact s3
      · rw [hli, hlen] at hc
        rw [ch_rem]
        by_cases q1 : c < n
        · rw [if_pos q1]
          exact CC_o (RepS_CC j2 (by omega)) fun j hj => by rw [ho _ (by omega), if_neg (by omega)]
        · rw [if_neg q1]
          refine CC_o (RepS_CC j2 (n := c + 1) (by omega)) fun j hj => ?_
          rw [ho _ (by omega), if_pos (by omega)]
          congr 1
          omega
    obtain ⟨r1, r2⟩ := j4 K _ hRS (fun i q a c => p1 i q a)
    refine ⟨K, fun Q => ?_, r1, r2⟩
    have e0 := e Q
    clear e
    rw [show 1 + 6 * n + 6 * (len - 1 - n) = 1 + 6 * (len - 1) by omega, Nat.add_zero] at e0
    have f6 : 1 + 6 * (n : Int) = ((1 + 6 * n : Nat) : Int) := by omega
    have f7 : 1 + 6 * ((len : Int) - 1) = ((1 + 6 * (len - 1) : Nat) : Int) := by omega
    simp (disch := first | exact cat_i _ | exact cat_r _ | exact cat_n | omega) only [u152_0, u152_1, u152_2, u152_5, u152_8, u152_9, u152_10, u152_11, u152_14, u152_15, u152_18, u152_19, u152_20, u152_21, u152_22, u152_23, u152_24, u152_25, u152_27, u152_28, u152_29, u152_30, e152, hT_102, hT_103, hR_102_0, e116, zI_dt hh, j1, s0, f6, if_pos, if_neg, ↓reduceIte, false_and, and_false, false_or, or_false, ite_not, decide_true, decide_false, Bool.true_eq_false, Bool.false_eq_true, decide_eq_true_eq, decide_eq_false_iff_not, hp_I, hp_sI, hp_N, ev_k_s, ev_k_n, true_and, and_true, true_or, or_true, not_true_eq_false, not_false_eq_true, if_true, if_false, ite_self, Option.some.injEq, exists_eq_left', nb_0, nb_1, nb_z, zI_t, zI_f, zI_e, cat_i, cat_r, cat_n, iI_add, iI_sub, iI_mul, iI_neg, iI_lt, iI_le, iI_eq, iI_idx, iI_inT, iI_ne0, ite_false, ite_true, iN_0, iN_1, Int.reduceAdd, Int.reduceSub, Int.reduceMul, Int.reduceNeg, Int.reduceDiv, Int.reduceMod, Int.reduceEq, Int.reduceLT, Int.reduceLE, Int.reduceToNat, Nat.reduceAdd, Nat.reduceSub, Nat.reduceMul, Nat.reduceLT, Nat.reduceLeDiff, Nat.reduceEqDiff, Int.cast_ofNat_Int, Std.le_refl, and_self, Int.toNat_natCast, Int.toNat_zero, Nat.le_refl]
    refine Eq.trans e0 ?_
    simp (disch := first | exact cat_i _ | exact cat_r _ | exact cat_n | omega) only [u152_31, u152_32, u152_33, u152_35, u152_36, u152_39, u152_40, u152_41, u152_42, u152_43, u152_67, u152_68, u152_71, u152_72, u152_73, hT_102, hT_103, hR_102_0, k0, f7, if_pos, if_neg, ↓reduceIte, false_and, and_false, false_or, or_false, ite_not, decide_true, decide_false, Bool.true_eq_false, Bool.false_eq_true, decide_eq_true_eq, decide_eq_false_iff_not, hp_I, hp_sI, hp_N, ev_k_s, ev_k_n, true_and, and_true, true_or, or_true, not_true_eq_false, not_false_eq_true, if_true, if_false, ite_self, Option.some.injEq, exists_eq_left', nb_0, nb_1, nb_z, zI_t, zI_f, zI_e, cat_i, cat_r, cat_n, iI_add, iI_sub, iI_mul, iI_neg, iI_lt, iI_le, iI_eq, iI_idx, iI_inT, iI_ne0, ite_false, ite_true, iN_0, iN_1, Int.reduceAdd, Int.reduceSub, Int.reduceMul, Int.reduceNeg, Int.reduceDiv, Int.reduceMod, Int.reduceEq, Int.reduceLT, Int.reduceLE, Int.reduceToNat, Nat.reduceAdd, Nat.reduceSub, Nat.reduceMul, Nat.reduceLT, Nat.reduceLeDiff, Nat.reduceEqDiff, Int.cast_ofNat_Int, Std.le_refl, and_self, Int.toNat_natCast, Int.toNat_zero, Nat.le_refl]
  · rename_i hh
    refine MR_id hM fun Q => ?_
    simp (disch := first | exact cat_i _ | exact cat_r _ | exact cat_n | omega) only [u152_0, u152_1, u152_2, u152_5, u152_8, u152_9, e152, hT_102, e116, zI_df hh, if_pos, if_neg, ↓reduceIte, false_and, and_false, false_or, or_false, ite_not, decide_true, decide_false, Bool.true_eq_false, Bool.false_eq_true, decide_eq_true_eq, decide_eq_false_iff_not, hp_I, hp_sI, hp_N, ev_k_s, ev_k_n, true_and, and_true, true_or, or_true, not_true_eq_false, not_false_eq_true, if_true, if_false, ite_self, Option.some.injEq, exists_eq_left', nb_0, nb_1, nb_z, zI_t, zI_f, zI_e, cat_i, cat_r, cat_n, iI_add, iI_sub, iI_mul, iI_neg, iI_lt, iI_le, iI_eq, iI_idx, iI_inT, iI_ne0, ite_false, ite_true, iN_0, iN_1, Int.reduceAdd, Int.reduceSub, Int.reduceMul, Int.reduceNeg, Int.reduceDiv, Int.reduceMod, Int.reduceEq, Int.reduceLT, Int.reduceLE, Int.reduceToNat, Nat.reduceAdd, Nat.reduceSub, Nat.reduceMul, Nat.reduceLT, Nat.reduceLeDiff, Nat.reduceEqDiff, Int.cast_ofNat_Int, Std.le_refl, and_self, Int.toNat_natCast, Int.toNat_zero, Nat.le_refl]
end MC
/-! how many chords have voices -/
theorem vcs_bit (S : Co) : ∀ (N k : Nat), ((List.range N).foldl (vst S) 0).testBit k = (decide (k < N) && (ch S k).2.2.isSome)
  | 0, k => by
    show (0 : Nat).testBit k = _
    rw [Nat.zero_testBit]
    simp
  | N + 1, k => by
    rw [List.range_succ, List.foldl_append]
    show (vst S ((List.range N).foldl (vst S) 0) N).testBit k = _
    unfold vst
    by_cases q : k = N
    · subst q
      cases hs : (ch S k).2.2.isSome with
      | true => rw [if_pos rfl, Nat.testBit_or, Nat.testBit_two_pow_self]; simp
      | false =>
        rw [if_neg (by decide)]
        have := vcs_bit S k k
        unfold vst at this
        rw [this, hs]
        simp
    · have := vcs_bit S N k
      unfold vst at this
      have hd : decide (k < N + 1) = decide (k < N) := decide_eq_decide.mpr (by omega)
      rw [hd]
      split
      · rw [Nat.testBit_or, this, Nat.testBit_two_pow_of_ne (by omega), Bool.or_false]
      · exact this
theorem bit_div (m k : Nat) : m / 2 ^ k % 2 = if m.testBit k = true then 1 else 0 := by
  rw [Nat.testBit_eq_decide_div_mod_eq]
  by_cases q : m / 2 ^ k % 2 = 1
  · rw [q]; rfl
  · rw [if_neg (by rw [decide_eq_true_eq]; exact q)]; omega
/-- how many -/
def nvc (S : Co) (N : Nat) : Nat := (List.range N).foldl (fun a c => a + (if (ch S c).2.2.isSome = true then 1 else 0)) 0
theorem foldl_zero (g : Nat → Nat) : ∀ (l : List Nat) (a : Nat), (∀ k, k ∈ l → g k = 0) → l.foldl (fun a k => a + g k) a = a
  | [], a, _ => rfl
  | k :: l, a, h => by
    rw [List.foldl_cons, h k (List.mem_cons_self ..), Nat.add_zero]
    exact foldl_zero g l a fun j hj => h j (List.mem_cons_of_mem _ hj)
theorem foldl_eq (f g : Nat → Nat) : ∀ (l : List Nat) (a : Nat), (∀ k, k ∈ l → f k = g k) → l.foldl (fun a k => a + f k) a = l.foldl (fun a k => a + g k) a
  | [], a, _ => rfl
  | k :: l, a, h => by
    rw [List.foldl_cons, List.foldl_cons, h k (List.mem_cons_self ..)]
    exact foldl_eq f g l _ fun j hj => h j (List.mem_cons_of_mem _ hj)
theorem nvc_bcn {S : Co} (h : S.2.length ≤ 10) : nvc S S.2.length = bcn (vcs S) := by
  unfold nvc bcn vcs
  obtain ⟨d, hd⟩ := Nat.exists_eq_add_of_le (show S.2.length ≤ 12 by omega)
  rw [hd, List.range_add, List.foldl_append, foldl_eq (fun k => (List.range S.2.length).foldl (vst S) 0 / 2 ^ k % 2) (fun c => if (ch S c).2.2.isSome = true then 1 else 0) (List.range S.2.length)]
  · refine (foldl_zero _ _ _ fun k hk => ?_).symm
    obtain ⟨j, _, rfl⟩ := List.mem_map.mp hk
    rw [bit_div, vcs_bit, if_neg]
    rw [show decide (S.2.length + j < S.2.length) = false from decide_eq_false (by omega), Bool.false_and]
    decide
  · intro k hk
    rw [List.mem_range] at hk
    rw [bit_div, vcs_bit, decide_eq_true hk, Bool.true_and]
section MD
variable {L : Nat} {σ : Nat → Nat} {I J K : Nat → Nat → Int32} {Q : Option Value → fb_H → Prop} {h : fb_H} {x y z p q r iv : Int} {S : Co} {n m a o a' o' b b' f : Nat} {v w : Nat × Nat × Nat} {A : AS} {H : List Co}
/-- voiced -/
theorem c155 (hr : RepS I 103 0 S) (hl : S.2.length ≤ 10) : ev_c 155 [.ref 102] (hp L σ I) Q = Q (some (.int (iI ((bcn (vcs S) : Nat) : Int)))) (hp L σ I) := by
  have h0 := hr.1
  have lp := (lf0 (fun (a k : Nat) => ev_w 155 4 [.ref 102, .int (iI (a : Int)), .int (iI (k : Int))] [] (hp L σ I) Q) (fun a c => a + (if (ch S c).2.2.isSome = true then 1 else 0)) (fun _ _ => True) S.2.length (fun a k hk _ => ⟨trivial, by
    have e118 := fun Q => c118 (L := L) (σ := σ) (Q := Q) hr hl hk
    show ev_w 155 4 [.ref 102, .int (iI (a : Int)), .int (iI (k : Int))] [] (hp L σ I) Q = _
    rw [u155_4]
    cases hs : (ch S k).2.2.isSome <;> rw [hs] at e118
    all_goals
      simp (disch := first | exact cat_i _ | exact cat_r _ | exact cat_n | omega) only [u155_5, u155_6, u155_9, u155_10, u155_11, u155_14, u155_15, u155_16, u155_17, u155_20, u155_23, u155_24, u155_27, u155_28, u155_29, u155_30, u155_33, hT_102, hT_103, hR_102_0, h0, e118, if_pos, if_neg, ↓reduceIte, false_and, and_false, false_or, or_false, ite_not, decide_true, decide_false, Bool.true_eq_false, Bool.false_eq_true, decide_eq_true_eq, decide_eq_false_iff_not, hp_I, hp_sI, hp_N, ev_k_s, ev_k_n, true_and, and_true, true_or, or_true, not_true_eq_false, not_false_eq_true, if_true, if_false, ite_self, Option.some.injEq, exists_eq_left', nb_0, nb_1, nb_z, zI_t, zI_f, zI_e, cat_i, cat_r, cat_n, iI_add, iI_sub, iI_mul, iI_neg, iI_lt, iI_le, iI_eq, iI_idx, iI_inT, iI_ne0, ite_false, ite_true, iN_0, iN_1, Int.reduceAdd, Int.reduceSub, Int.reduceMul, Int.reduceNeg, Int.reduceDiv, Int.reduceMod, Int.reduceEq, Int.reduceLT, Int.reduceLE, Int.reduceToNat, Nat.reduceAdd, Nat.reduceSub, Nat.reduceMul, Nat.reduceLT, Nat.reduceLeDiff, Nat.reduceEqDiff, Int.cast_ofNat_Int, Std.le_refl, and_self, Int.toNat_natCast, Int.toNat_zero, Nat.le_refl]
      all_goals rfl⟩) 0 trivial).1
  rw [← nvc_bcn hl]
  simp (disch := first | exact cat_i _ | exact cat_r _ | exact cat_n | omega) only [u155_0, u155_1, u155_2, u155_3, e155, ↓reduceIte, false_and, and_false, false_or, or_false, ite_not, decide_true, decide_false, Bool.true_eq_false, Bool.false_eq_true, decide_eq_true_eq, decide_eq_false_iff_not, hp_I, hp_sI, hp_N, ev_k_s, ev_k_n, true_and, and_true, true_or, or_true, not_true_eq_false, not_false_eq_true, if_true, if_false, ite_self, Option.some.injEq, exists_eq_left', nb_0, nb_1, nb_z, zI_t, zI_f, zI_e, cat_i, cat_r, cat_n, iI_add, iI_sub, iI_mul, iI_neg, iI_lt, iI_le, iI_eq, iI_idx, iI_inT, iI_ne0, ite_false, ite_true, iN_0, iN_1, Int.reduceAdd, Int.reduceSub, Int.reduceMul, Int.reduceNeg, Int.reduceDiv, Int.reduceMod, Int.reduceEq, Int.reduceLT, Int.reduceLE, Int.reduceToNat, Nat.reduceAdd, Nat.reduceSub, Nat.reduceMul, Nat.reduceLT, Nat.reduceLeDiff, Nat.reduceEqDiff, Int.cast_ofNat_Int, Std.le_refl, and_self, Int.toNat_natCast, Int.toNat_zero, Nat.le_refl]
  refine Eq.trans lp ?_
  simp (disch := first | exact cat_i _ | exact cat_r _ | exact cat_n | omega) only [u155_4, u155_5, u155_6, u155_9, u155_10, u155_11, u155_36, u155_37, hT_102, hT_103, hR_102_0, h0, if_pos, if_neg, ↓reduceIte, false_and, and_false, false_or, or_false, ite_not, decide_true, decide_false, Bool.true_eq_false, Bool.false_eq_true, decide_eq_true_eq, decide_eq_false_iff_not, hp_I, hp_sI, hp_N, ev_k_s, ev_k_n, true_and, and_true, true_or, or_true, not_true_eq_false, not_false_eq_true, if_true, if_false, ite_self, Option.some.injEq, exists_eq_left', nb_0, nb_1, nb_z, zI_t, zI_f, zI_e, cat_i, cat_r, cat_n, iI_add, iI_sub, iI_mul, iI_neg, iI_lt, iI_le, iI_eq, iI_idx, iI_inT, iI_ne0, ite_false, ite_true, iN_0, iN_1, Int.reduceAdd, Int.reduceSub, Int.reduceMul, Int.reduceNeg, Int.reduceDiv, Int.reduceMod, Int.reduceEq, Int.reduceLT, Int.reduceLE, Int.reduceToNat, Nat.reduceAdd, Nat.reduceSub, Nat.reduceMul, Nat.reduceLT, Nat.reduceLeDiff, Nat.reduceEqDiff, Int.cast_ofNat_Int, Std.le_refl, and_self, Int.toNat_natCast, Int.toNat_zero, Nat.le_refl]
  all_goals rfl
/-- silence -/
theorem m156 (hM : RepM I A) (hA : AV A) (hx1 : -2147483648 ≤ x) (hx2 : x < 2147483648) : MR L σ I 156 [.ref 102, .int (iI x)] (opSil A x) := by
  have hl := hA.1.2.2.2.1
  have e116 := fun Q => c116 (L := L) (σ := σ) (Q := Q) hM.1 hl hx1 hx2
  unfold opSil
  split
  · rename_i hh
    obtain ⟨n, rfl⟩ := Int.eq_ofNat_of_zero_le hh.1
    have hn : n < A.1.2.length := by omega
    have e118 := fun Q => c118 (L := L) (σ := σ) (Q := Q) hM.1 hl hn
    rw [Int.toNat_natCast]
    cases hs : (ch A.1 n).2.2.isSome with
    | true =>
      rw [if_pos rfl]
      rw [hs] at e118
      obtain ⟨J, j1, j2, j3, j4⟩ := mchg (L := L) (σ := σ) hM hA
      have e0 := fun Q => c117_0 (L := L) (σ := σ) (Q := Q) j2 hl hn
      have e1 := fun Q => c117_1 (L := L) (σ := σ) (Q := Q) j2 hl hn
      obtain ⟨K, k1, ⟨k2, k3, k4⟩, k5⟩ := c150 (L := L) (σ := σ) (I := J) (n := n) (by omega) (y := iI ((ch A.1 n).1 : Int)) (z := iI ((ch A.1 n).2.1 : Int))
      have hRS : RepS K 103 0 (gv A.1 n none) := RepS_gv j2 hl hn (fun q a => k5 _ _ (by omega)) ⟨k2, k3, k4, fun v e => by cases e⟩
      obtain ⟨r1, r2⟩ := j4 K _ hRS (fun i q a c => k5 _ _ (by omega))
      have e155 := fun Q => c155 (L := L) (σ := σ) (Q := Q) hRS (by rw [len_gv]; exact hl)
      refine ⟨K, fun Q => ?_, r1, r2⟩
      simp (disch := first | exact cat_i _ | exact cat_r _ | exact cat_n | omega) only [e156, u156_0, u156_1, u156_2, u156_5, u156_8, u156_9, u156_10, u156_11, u156_12, u156_15, u156_18, u156_20, u156_21, u156_22, u156_25, u156_26, u156_27, u156_28, u156_29, u156_30, u156_33, u156_34, u156_35, u156_36, u156_39, u156_42, u156_43, u156_46, hT_102, e116, zI_dt hh, e118, j1, e0, e1, k1, e155, if_pos, if_neg, ↓reduceIte, false_and, and_false, false_or, or_false, ite_not, decide_true, decide_false, Bool.true_eq_false, Bool.false_eq_true, decide_eq_true_eq, decide_eq_false_iff_not, hp_I, hp_sI, hp_N, ev_k_s, ev_k_n, true_and, and_true, true_or, or_true, not_true_eq_false, not_false_eq_true, if_true, if_false, ite_self, Option.some.injEq, exists_eq_left', nb_0, nb_1, nb_z, zI_t, zI_f, zI_e, cat_i, cat_r, cat_n, iI_add, iI_sub, iI_mul, iI_neg, iI_lt, iI_le, iI_eq, iI_idx, iI_inT, iI_ne0, ite_false, ite_true, iN_0, iN_1, Int.reduceAdd, Int.reduceSub, Int.reduceMul, Int.reduceNeg, Int.reduceDiv, Int.reduceMod, Int.reduceEq, Int.reduceLT, Int.reduceLE, Int.reduceToNat, Nat.reduceAdd, Nat.reduceSub, Nat.reduceMul, Nat.reduceLT, Nat.reduceLeDiff, Nat.reduceEqDiff, Int.cast_ofNat_Int, Std.le_refl, and_self, Int.toNat_natCast, Int.toNat_zero, Nat.le_refl]
    | false =>
      rw [if_neg (by decide)]
      rw [hs] at e118
      refine MR_id hM fun Q => ?_
      simp (disch := first | exact cat_i _ | exact cat_r _ | exact cat_n | omega) only [u156_0, u156_1, u156_2, u156_5, u156_8, u156_9, u156_10, u156_11, u156_12, u156_15, u156_18, u156_20, e156, hT_102, e116, zI_dt hh, e118, if_pos, if_neg, ↓reduceIte, false_and, and_false, false_or, or_false, ite_not, decide_true, decide_false, Bool.true_eq_false, Bool.false_eq_true, decide_eq_true_eq, decide_eq_false_iff_not, hp_I, hp_sI, hp_N, ev_k_s, ev_k_n, true_and, and_true, true_or, or_true, not_true_eq_false, not_false_eq_true, if_true, if_false, ite_self, Option.some.injEq, exists_eq_left', nb_0, nb_1, nb_z, zI_t, zI_f, zI_e, cat_i, cat_r, cat_n, iI_add, iI_sub, iI_mul, iI_neg, iI_lt, iI_le, iI_eq, iI_idx, iI_inT, iI_ne0, ite_false, ite_true, iN_0, iN_1, Int.reduceAdd, Int.reduceSub, Int.reduceMul, Int.reduceNeg, Int.reduceDiv, Int.reduceMod, Int.reduceEq, Int.reduceLT, Int.reduceLE, Int.reduceToNat, Nat.reduceAdd, Nat.reduceSub, Nat.reduceMul, Nat.reduceLT, Nat.reduceLeDiff, Nat.reduceEqDiff, Int.cast_ofNat_Int, Std.le_refl, and_self, Int.toNat_natCast, Int.toNat_zero, Nat.le_refl]
  · rename_i hh
    refine MR_id hM fun Q => ?_
    simp (disch := first | exact cat_i _ | exact cat_r _ | exact cat_n | omega) only [u156_0, u156_1, u156_2, u156_5, u156_8, u156_9, u156_10, u156_11, u156_12, u156_15, u156_18, u156_20, e156, hT_102, e116, zI_df hh, if_pos, if_neg, ↓reduceIte, false_and, and_false, false_or, or_false, ite_not, decide_true, decide_false, Bool.true_eq_false, Bool.false_eq_true, decide_eq_true_eq, decide_eq_false_iff_not, hp_I, hp_sI, hp_N, ev_k_s, ev_k_n, true_and, and_true, true_or, or_true, not_true_eq_false, not_false_eq_true, if_true, if_false, ite_self, Option.some.injEq, exists_eq_left', nb_0, nb_1, nb_z, zI_t, zI_f, zI_e, cat_i, cat_r, cat_n, iI_add, iI_sub, iI_mul, iI_neg, iI_lt, iI_le, iI_eq, iI_idx, iI_inT, iI_ne0, ite_false, ite_true, iN_0, iN_1, Int.reduceAdd, Int.reduceSub, Int.reduceMul, Int.reduceNeg, Int.reduceDiv, Int.reduceMod, Int.reduceEq, Int.reduceLT, Int.reduceLE, Int.reduceToNat, Nat.reduceAdd, Nat.reduceSub, Nat.reduceMul, Nat.reduceLT, Nat.reduceLeDiff, Nat.reduceEqDiff, Int.cast_ofNat_Int, Std.le_refl, and_self, Int.toNat_natCast, Int.toNat_zero, Nat.le_refl]
end MD
