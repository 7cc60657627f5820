/-! the whole state of the class: the piece, the history, the slots, the text -/
abbrev AS : Type := Co × List Co × (Option Co × Option Co) × List Nat
def RepSl (I : Nat → Nat → Int32) (s : Option Co × Option Co) : Prop := I 49 0 = zI s.1.isSome ∧ I 49 1 = zI s.2.isSome ∧ (∀ S, s.1 = some S → RepP I 39 S ∧ VS S) ∧ ∀ S, s.2 = some S → RepP I 44 S ∧ VS S
def RepT (I : Nat → Nat → Int32) (T : List Nat) : Prop := I 50 1 = iI (T.length : Int) ∧ T.length ≤ 80 ∧ (∀ c, c ∈ T → 33 ≤ c ∧ c ≤ 126) ∧ ∀ k, k < T.length → I 51 k = iI ((T.getD k 0 : Nat) : Int)
def RepX (σ : Nat → Nat) (I : Nat → Nat → Int32) (A : AS) : Prop := RepP I 1 A.1 ∧ VS A.1 ∧ siOK σ ∧ RepH σ I A.2.1 ∧ RepSl I A.2.2.1 ∧ RepT I A.2.2.2
def XR (L : Nat) (σ : Nat → Nat) (I : Nat → Nat → Int32) (y : Nat) (as : List Value) (r : Int × AS) : Prop := ∃ τ J, (∀ Q : Option Value → fb_H → Prop, ev_c y as (hp L σ I) Q = Q (some (.int (iI r.1))) (hp L τ J)) ∧ RepX τ J r.2 ∧ ∀ i q, 102 ≤ i → J i q = I i q
section SX
variable {Q : Option Value → fb_H → Prop} {L t y : Nat} {σ τ : Nat → Nat} {I J : Nat → Nat → Int32} {S : Co} {H : List Co} {A : AS}
theorem RepH_o (hH : RepH σ I H) (hs : siOK σ) (h : ∀ i q, 6 ≤ i → i ≤ 37 → J i q = I i q) : RepH σ J H := by
  obtain ⟨g1, g2, g3, g4⟩ := hH
  refine ⟨(h _ _ (by omega) (by omega)).trans g1, g2, g3, fun k hk => RepP_o (g4 k hk) fun i q a b => ?_⟩
  have := hs.1 k (by omega)
  exact h i q (by omega) (by omega)
theorem RepSl_o {s : Option Co × Option Co} (hS : RepSl I s) (h : ∀ i q, 39 ≤ i → i ≤ 49 → J i q = I i q) : RepSl J s := by
  obtain ⟨g1, g2, g3, g4⟩ := hS
  exact ⟨(h _ _ (by omega) (by omega)).trans g1, (h _ _ (by omega) (by omega)).trans g2, fun S e => ⟨RepP_o (g3 S e).1 fun i q a b => h i q (by omega) (by omega), (g3 S e).2⟩, fun S e => ⟨RepP_o (g4 S e).1 fun i q a b => h i q (by omega) (by omega), (g4 S e).2⟩⟩
theorem RepT_o {T : List Nat} (hT : RepT I T) (h : ∀ i q, 50 ≤ i → i ≤ 51 → J i q = I i q) : RepT J T := by
  obtain ⟨g1, g2, g3, g4⟩ := hT
  exact ⟨(h _ _ (by omega) (by omega)).trans g1, g2, g3, fun k hk => (h _ _ (by omega) (by omega)).trans (g4 k hk)⟩
theorem RepX_o (hX : RepX σ I A) (h : ∀ i q, i ≤ 51 → J i q = I i q) : RepX σ J A := by
  obtain ⟨h1, h2, h3, h4, h5, h6⟩ := hX
  exact ⟨RepP_o h1 fun i q a b => h i q (by omega), h2, h3, RepH_o h4 h3 fun i q a b => h i q (by omega), RepSl_o h5 fun i q a b => h i q (by omega), RepT_o h6 fun i q a b => h i q (by omega)⟩
theorem chg (hX : RepX σ I A) (hs : StI I) : ∃ τ J, (∀ Q : Option Value → fb_H → Prop, ev_c 2 [.ref 6, .ref 1] (hp L σ I) Q = Q none (hp L τ J)) ∧ RepP J 1 A.1 ∧ StI J ∧ (∀ i q, (i < 6 ∨ 38 ≤ i) → J i q = I i q) ∧ ∀ K S', RepP K 1 S' → VS S' → Oth J K 1 → RepX τ K (S', pus A.2.1 A.1, A.2.2) ∧ ∀ i q, 102 ≤ i → K i q = I i q := by
  obtain ⟨h1, h2, h3, h4, h5, h6⟩ := hX
  obtain ⟨τ, J, j1, j2, j3, j4⟩ := c2 (L := L) h3 h4 h1 h2
  refine ⟨τ, J, j1, RepP_o h1 fun i q a b => j4 i q (by omega), StI_o hs fun i q a => j4 i q (by omega), j4, fun K S' k1 k2 k3 => ⟨⟨k1, k2, j2, RepH_o j3 j2 fun i q a b => k3 i q (by omega), RepSl_o h5 fun i q a b => (k3 i q (by omega)).trans (j4 i q (by omega)), RepT_o h6 fun i q a b => (k3 i q (by omega)).trans (j4 i q (by omega))⟩, fun i q a => (k3 i q (by omega)).trans (j4 i q (by omega))⟩⟩
theorem isp1 : isp 1 := Or.inl rfl
theorem XR_id {as : List Value} {r : Int} (hX : RepX σ I A) (h : ∀ Q : Option Value → fb_H → Prop, ev_c y as (hp L σ I) Q = Q (some (.int (iI r))) (hp L σ I)) : XR L σ I y as (r, A) := ⟨σ, I, h, hX, fun _ _ _ => rfl⟩
end SX
/-! set, takeOut, silence -/
def opSet (A : AS) (s v : Int) : Int × AS := if (s = 0 ∧ 0 ≤ v ∧ v ≤ 11) ∨ (s = 1 ∧ 7 ≤ v ∧ v ≤ 24) ∨ (s = 2 ∧ 1 ≤ v ∧ v ≤ 12) then ((((if s = 0 then A.1.1.1 else if s = 1 then A.1.1.2.1 else A.1.1.2.2) : Nat) : Int), (stk A.1 s.toNat v.toNat, pus A.2.1 A.1, A.2.2)) else (-2, A)
section OP
variable {L : Nat} {σ : Nat → Nat} {I : Nat → Nat → Int32} {A : AS} {x y z w : Int}
theorem VS_stk {S : Co} (hv : VS S) {s v : Nat} (h : (s = 0 ∧ v ≤ 11) ∨ (s = 1 ∧ 7 ≤ v ∧ v ≤ 24) ∨ (s = 2 ∧ 1 ≤ v ∧ v ≤ 12)) : VS (stk S s v) := by
  obtain ⟨h1, h2, h3, h4, h5⟩ := hv
  refine ⟨?_, ?_, ?_, h4, h5⟩
  · show (if s = 0 then v else S.1.1) < 12
    split <;> omega
  · show 7 ≤ (if s = 1 then v else S.1.2.1) ∧ (if s = 1 then v else S.1.2.1) ≤ 24
    split <;> omega
  · show 1 ≤ (if s = 2 then v else S.1.2.2) ∧ (if s = 2 then v else S.1.2.2) ≤ 12
    split <;> omega
theorem x79 (hX : RepX σ I A) (hs : StI I) (hx1 : -2147483648 ≤ x) (hx2 : x < 2147483648) (hy1 : -2147483648 ≤ y) (hy2 : y < 2147483648) : XR L σ I 79 [.ref 0, .int (iI x), .int (iI y)] (opSet A x y) := by
  obtain ⟨τ, J, j1, j2, j3, j4, j5⟩ := chg (L := L) hX hs
  have c27a := fun Q => c27_0 (L := L) (σ := σ) (Q := Q) isp1 hX.1
  have c27b := fun Q => c27_1 (L := L) (σ := σ) (Q := Q) isp1 hX.1
  have c27c := fun Q => c27_2 (L := L) (σ := σ) (Q := Q) isp1 hX.1
  unfold opSet
  split
  · rename_i h
    have hv' : y = ((y.toNat : Nat) : Int) := by omega
    obtain ⟨K, k1, k2, k3⟩ := c28 (L := L) (σ := τ) (t := 1) isp1 j2 (n := x.toNat) (by omega) y.toNat
    obtain ⟨r1, r2⟩ := j5 K _ k2 (VS_stk hX.2.1 (by omega)) k3
    refine ⟨τ, K, fun Q => ?_, r1, r2⟩
    rw [← hv'] at k1
    rcases (show x = 0 ∨ x = 1 ∨ x = 2 by omega) with rfl | rfl | rfl
    · simp only [Int.toNat_zero, Int.cast_ofNat_Int] at k1
      simp (disch := first | exact cat_i _ | exact cat_r _ | exact cat_n | omega) only [e79, u79_0, u79_1, u79_4, u79_7, u79_8, u79_11, u79_12, u79_13, u79_16, u79_17, u79_20, u79_21, u79_22, u79_25, u79_27, u79_28, u79_29, u79_32, u79_33, u79_36, u79_37, u79_38, u79_41, u79_42, u79_45, u79_48, u79_49, u79_52, u79_53, u79_54, u79_57, u79_58, hT_0, hT_1, hT_6, hT_1000002, hT_1000003, hR_0_0, hR_0_1, hs.m0, hs.g0, c101, c27a, j1, k1, if_pos, if_neg, ↓reduceIte, false_and, and_false, false_or, or_false, ite_not, decide_true, decide_false, Bool.true_eq_false, Bool.false_eq_true, decide_eq_true_eq, decide_eq_false_iff_not, hp_I, hp_sI, hp_N, ev_k_s, ev_k_n, true_and, and_true, true_or, or_true, not_true_eq_false, not_false_eq_true, if_true, if_false, ite_self, Option.some.injEq, exists_eq_left', nb_0, nb_1, nb_z, zI_t, zI_f, zI_e, cat_i, cat_r, cat_n, iI_add, iI_sub, iI_mul, iI_neg, iI_lt, iI_le, iI_eq, iI_idx, iI_inT, iI_ne0, ite_false, ite_true, iN_0, iN_1, Int.reduceAdd, Int.reduceSub, Int.reduceMul, Int.reduceNeg, Int.reduceDiv, Int.reduceMod, Int.reduceEq, Int.reduceLT, Int.reduceLE, Int.reduceToNat, Nat.reduceAdd, Nat.reduceSub, Nat.reduceMul, Nat.reduceLT, Nat.reduceLeDiff, Nat.reduceEqDiff, Int.cast_ofNat_Int, Std.le_refl, and_self, Int.toNat_natCast, Int.toNat_zero, Nat.le_refl]
    · simp only [Int.reduceToNat, Int.cast_ofNat_Int] at k1
      simp (disch := first | exact cat_i _ | exact cat_r _ | exact cat_n | omega) only [e79, u79_0, u79_1, u79_4, u79_7, u79_8, u79_11, u79_12, u79_13, u79_16, u79_17, u79_20, u79_21, u79_22, u79_25, u79_27, u79_28, u79_29, u79_32, u79_33, u79_36, u79_37, u79_38, u79_41, u79_42, u79_45, u79_48, u79_49, u79_52, u79_53, u79_54, u79_57, u79_58, hT_0, hT_1, hT_6, hT_1000002, hT_1000003, hR_0_0, hR_0_1, hs.m1, hs.g1, c101, c27b, j1, k1, if_pos, if_neg, ↓reduceIte, false_and, and_false, false_or, or_false, ite_not, decide_true, decide_false, Bool.true_eq_false, Bool.false_eq_true, decide_eq_true_eq, decide_eq_false_iff_not, hp_I, hp_sI, hp_N, ev_k_s, ev_k_n, true_and, and_true, true_or, or_true, not_true_eq_false, not_false_eq_true, if_true, if_false, ite_self, Option.some.injEq, exists_eq_left', nb_0, nb_1, nb_z, zI_t, zI_f, zI_e, cat_i, cat_r, cat_n, iI_add, iI_sub, iI_mul, iI_neg, iI_lt, iI_le, iI_eq, iI_idx, iI_inT, iI_ne0, ite_false, ite_true, iN_0, iN_1, Int.reduceAdd, Int.reduceSub, Int.reduceMul, Int.reduceNeg, Int.reduceDiv, Int.reduceMod, Int.reduceEq, Int.reduceLT, Int.reduceLE, Int.reduceToNat, Nat.reduceAdd, Nat.reduceSub, Nat.reduceMul, Nat.reduceLT, Nat.reduceLeDiff, Nat.reduceEqDiff, Int.cast_ofNat_Int, Std.le_refl, and_self, Int.toNat_natCast, Int.toNat_zero, Nat.le_refl]
    · simp only [Int.reduceToNat, Int.cast_ofNat_Int] at k1
      simp (disch := first | exact cat_i _ | exact cat_r _ | exact cat_n | omega) only [e79, u79_0, u79_1, u79_4, u79_7, u79_8, u79_11, u79_12, u79_13, u79_16, u79_17, u79_20, u79_21, u79_22, u79_25, u79_27, u79_28, u79_29, u79_32, u79_33, u79_36, u79_37, u79_38, u79_41, u79_42, u79_45, u79_48, u79_49, u79_52, u79_53, u79_54, u79_57, u79_58, hT_0, hT_1, hT_6, hT_1000002, hT_1000003, hR_0_0, hR_0_1, hs.m2, hs.g2, c101, c27c, j1, k1, if_pos, if_neg, ↓reduceIte, false_and, and_false, false_or, or_false, ite_not, decide_true, decide_false, Bool.true_eq_false, Bool.false_eq_true, decide_eq_true_eq, decide_eq_false_iff_not, hp_I, hp_sI, hp_N, ev_k_s, ev_k_n, true_and, and_true, true_or, or_true, not_true_eq_false, not_false_eq_true, if_true, if_false, ite_self, Option.some.injEq, exists_eq_left', nb_0, nb_1, nb_z, zI_t, zI_f, zI_e, cat_i, cat_r, cat_n, iI_add, iI_sub, iI_mul, iI_neg, iI_lt, iI_le, iI_eq, iI_idx, iI_inT, iI_ne0, ite_false, ite_true, iN_0, iN_1, Int.reduceAdd, Int.reduceSub, Int.reduceMul, Int.reduceNeg, Int.reduceDiv, Int.reduceMod, Int.reduceEq, Int.reduceLT, Int.reduceLE, Int.reduceToNat, Nat.reduceAdd, Nat.reduceSub, Nat.reduceMul, Nat.reduceLT, Nat.reduceLeDiff, Nat.reduceEqDiff, Int.cast_ofNat_Int, Std.le_refl, and_self, Int.toNat_natCast, Int.toNat_zero, Nat.le_refl]
  · rename_i h
    refine XR_id hX fun Q => ?_
    by_cases hr : 0 ≤ x ∧ x < 3
    · rcases (show x = 0 ∨ x = 1 ∨ x = 2 by omega) with rfl | rfl | rfl
      all_goals
        simp (disch := first | exact cat_i _ | exact cat_r _ | exact cat_n | omega) only [u79_0, u79_1, u79_4, u79_7, u79_8, u79_11, u79_12, u79_13, u79_16, u79_17, u79_20, u79_21, u79_22, u79_25, u79_27, u79_28, u79_29, u79_32, u79_33, e79, hT_0, hT_1000002, hT_1000003, hs.m0, hs.m1, hs.m2, hs.g0, hs.g1, hs.g2, c101, zI_dt, ↓reduceIte, false_and, and_false, false_or, or_false, ite_not, decide_true, decide_false, Bool.true_eq_false, Bool.false_eq_true, decide_eq_true_eq, decide_eq_false_iff_not, hp_I, hp_sI, hp_N, ev_k_s, ev_k_n, true_and, and_true, true_or, or_true, not_true_eq_false, not_false_eq_true, if_true, if_false, ite_self, Option.some.injEq, exists_eq_left', nb_0, nb_1, nb_z, zI_t, zI_f, zI_e, cat_i, cat_r, cat_n, iI_add, iI_sub, iI_mul, iI_neg, iI_lt, iI_le, iI_eq, iI_idx, iI_inT, iI_ne0, ite_false, ite_true, iN_0, iN_1, Int.reduceAdd, Int.reduceSub, Int.reduceMul, Int.reduceNeg, Int.reduceDiv, Int.reduceMod, Int.reduceEq, Int.reduceLT, Int.reduceLE, Int.reduceToNat, Nat.reduceAdd, Nat.reduceSub, Nat.reduceMul, Nat.reduceLT, Nat.reduceLeDiff, Nat.reduceEqDiff, Int.cast_ofNat_Int, Std.le_refl, and_self, Int.toNat_natCast, Int.toNat_zero, Nat.le_refl]
        repeat' split
        all_goals first | rfl | (exfalso; omega)
    · simp (disch := first | exact cat_i _ | exact cat_r _ | exact cat_n | omega) only [u79_0, u79_1, u79_4, u79_7, u79_8, u79_11, u79_12, u79_13, u79_16, u79_17, u79_20, u79_21, u79_22, u79_25, u79_27, u79_28, u79_29, u79_32, u79_33, e79, hT_0, c101, zI_df hr, if_pos, if_neg, ↓reduceIte, false_and, and_false, false_or, or_false, ite_not, decide_true, decide_false, Bool.true_eq_false, Bool.false_eq_true, decide_eq_true_eq, decide_eq_false_iff_not, hp_I, hp_sI, hp_N, ev_k_s, ev_k_n, true_and, and_true, true_or, or_true, not_true_eq_false, not_false_eq_true, if_true, if_false, ite_self, Option.some.injEq, exists_eq_left', nb_0, nb_1, nb_z, zI_t, zI_f, zI_e, cat_i, cat_r, cat_n, iI_add, iI_sub, iI_mul, iI_neg, iI_lt, iI_le, iI_eq, iI_idx, iI_inT, iI_ne0, ite_false, ite_true, iN_0, iN_1, Int.reduceAdd, Int.reduceSub, Int.reduceMul, Int.reduceNeg, Int.reduceDiv, Int.reduceMod, Int.reduceEq, Int.reduceLT, Int.reduceLE, Int.reduceToNat, Nat.reduceAdd, Nat.reduceSub, Nat.reduceMul, Nat.reduceLT, Nat.reduceLeDiff, Nat.reduceEqDiff, Int.cast_ofNat_Int, Std.le_refl, and_self, Int.toNat_natCast, Int.toNat_zero, Nat.le_refl]
/-! which chord -/
theorem c26X (hX : RepX σ I A) {Q : Option Value → fb_H → Prop} (h1 : -2147483648 ≤ x) (h2 : x < 2147483648) : ev_c 26 [.ref 1, .int (iI x)] (hp L σ I) Q = Q (some (.int (zI (decide (0 ≤ x ∧ x < A.1.2.length))))) (hp L σ I) := c26 isp1 hX.1 hX.2.1 h1 h2
def opOut (A : AS) (x : Int) : Int × AS := if 0 ≤ x ∧ x < A.1.2.length then ((A.1.2.length : Int) - 1, (rem A.1 x.toNat, pus A.2.1 A.1, A.2.2)) else (-1, A)
theorem x81 (hX : RepX σ I A) (hs : StI I) (hx1 : -2147483648 ≤ x) (hx2 : x < 2147483648) : XR L σ I 81 [.ref 0, .int (iI x)] (opOut A x) := by
  have hl := hX.2.1.2.2.2.1
  unfold opOut
  split
  · rename_i h
    obtain ⟨n, rfl⟩ := Int.eq_ofNat_of_zero_le h.1
    have hn : n < A.1.2.length := by omega
    obtain ⟨τ, J, j1, j2, j3, j4, j5⟩ := chg (L := L) hX hs
    obtain ⟨K, k1, k2, k3⟩ := c42 (L := L) (σ := τ) (t := 1) isp1 j2 hX.2.1 hn
    obtain ⟨r1, r2⟩ := j5 K _ k2 (VS_rem hX.2.1 hn) k3
    refine ⟨τ, K, fun Q => ?_, r1, r2⟩
    have e25 := fun Q => c25 (L := L) (σ := τ) (Q := Q) isp1 k2
    rw [len_rem hn, show ((A.1.2.length - 1 : Nat) : Int) = (A.1.2.length : Int) - 1 by omega] at e25
    simp (disch := first | exact cat_i _ | exact cat_r _ | exact cat_n | omega) only [e81, u81_0, u81_1, u81_4, u81_5, u81_8, u81_11, u81_12, u81_13, u81_14, u81_17, u81_18, u81_21, u81_24, u81_25, u81_28, u81_29, u81_32, u81_33, u81_36, u81_39, hT_0, hT_1, hT_6, hR_0_0, hR_0_1, c26X hX, zI_dt h, j1, k1, e25, if_pos, if_neg, ↓reduceIte, false_and, and_false, false_or, or_false, ite_not, decide_true, decide_false, Bool.true_eq_false, Bool.false_eq_true, decide_eq_true_eq, decide_eq_false_iff_not, hp_I, hp_sI, hp_N, ev_k_s, ev_k_n, true_and, and_true, true_or, or_true, not_true_eq_false, not_false_eq_true, if_true, if_false, ite_self, Option.some.injEq, exists_eq_left', nb_0, nb_1, nb_z, zI_t, zI_f, zI_e, cat_i, cat_r, cat_n, iI_add, iI_sub, iI_mul, iI_neg, iI_lt, iI_le, iI_eq, iI_idx, iI_inT, iI_ne0, ite_false, ite_true, iN_0, iN_1, Int.reduceAdd, Int.reduceSub, Int.reduceMul, Int.reduceNeg, Int.reduceDiv, Int.reduceMod, Int.reduceEq, Int.reduceLT, Int.reduceLE, Int.reduceToNat, Nat.reduceAdd, Nat.reduceSub, Nat.reduceMul, Nat.reduceLT, Nat.reduceLeDiff, Nat.reduceEqDiff, Int.cast_ofNat_Int, Std.le_refl, and_self, Int.toNat_natCast, Int.toNat_zero, Nat.le_refl]
  · rename_i h
    refine XR_id hX fun Q => ?_
    simp (disch := first | exact cat_i _ | exact cat_r _ | exact cat_n | omega) only [e81, u81_0, u81_1, u81_4, u81_5, u81_8, u81_11, u81_12, u81_13, u81_14, u81_17, u81_18, u81_21, u81_24, u81_25, u81_28, u81_29, u81_32, u81_33, u81_36, u81_39, hT_0, hT_1, hT_6, hR_0_0, hR_0_1, c26X hX, zI_df h, if_pos, if_neg, ↓reduceIte, false_and, and_false, false_or, or_false, ite_not, decide_true, decide_false, Bool.true_eq_false, Bool.false_eq_true, decide_eq_true_eq, decide_eq_false_iff_not, hp_I, hp_sI, hp_N, ev_k_s, ev_k_n, true_and, and_true, true_or, or_true, not_true_eq_false, not_false_eq_true, if_true, if_false, ite_self, Option.some.injEq, exists_eq_left', nb_0, nb_1, nb_z, zI_t, zI_f, zI_e, cat_i, cat_r, cat_n, iI_add, iI_sub, iI_mul, iI_neg, iI_lt, iI_le, iI_eq, iI_idx, iI_inT, iI_ne0, ite_false, ite_true, iN_0, iN_1, Int.reduceAdd, Int.reduceSub, Int.reduceMul, Int.reduceNeg, Int.reduceDiv, Int.reduceMod, Int.reduceEq, Int.reduceLT, Int.reduceLE, Int.reduceToNat, Nat.reduceAdd, Nat.reduceSub, Nat.reduceMul, Nat.reduceLT, Nat.reduceLeDiff, Nat.reduceEqDiff, Int.cast_ofNat_Int, Std.le_refl, and_self, Int.toNat_natCast, Int.toNat_zero, Nat.le_refl]
def opSil (A : AS) (x : Int) : Int × AS := if 0 ≤ x ∧ x < A.1.2.length then (if (ch A.1 x.toNat).2.2.isSome then ((bcn (vcs (gv A.1 x.toNat none)) : Int), (gv A.1 x.toNat none, pus A.2.1 A.1, A.2.2)) else (-5, A)) else (-1, A)
theorem vcs_lt {S : Co} (h : S.2.length ≤ 10) : vcs S < 1024 := by
  refine (lf0 (fun _ _ => True) (vst S) (fun a _ => a < 1024) S.2.length (fun a k hk ha => ⟨?_, rfl⟩) 0 (by omega)).2
  unfold vst
  split
  · exact Nat.or_lt_two_pow (n := 10) ha (Nat.pow_lt_pow_right (by omega) (by omega))
  · exact ha
theorem x83 (hX : RepX σ I A) (hs : StI I) (hx1 : -2147483648 ≤ x) (hx2 : x < 2147483648) : XR L σ I 83 [.ref 0, .int (iI x)] (opSil A x) := by
  have hl := hX.2.1.2.2.2.1
  unfold opSil
  split
  · rename_i h
    obtain ⟨n, rfl⟩ := Int.eq_ofNat_of_zero_le h.1
    have hn : n < A.1.2.length := by omega
    rw [Int.toNat_natCast]
    have e32 := fun Q => c32 (L := L) (σ := σ) (Q := Q) isp1 hX.1 hX.2.1 hn
    cases hw : (ch A.1 n).2.2.isSome with
    | true =>
      rw [if_pos rfl]
      obtain ⟨τ, J, j1, j2, j3, j4, j5⟩ := chg (L := L) hX hs
      obtain ⟨K, k1, k2, k3⟩ := c44 (L := L) (σ := τ) (t := 1) isp1 j2 hX.2.1 hn none
      have hv' := VS_gv hX.2.1 hn (vo := none) (fun v e => by cases e)
      obtain ⟨r1, r2⟩ := j5 K _ k2 hv' k3
      refine ⟨τ, K, fun Q => ?_, r1, r2⟩
      have e39 := fun Q => c39 (L := L) (σ := τ) (Q := Q) isp1 k2 hv'
      have e185 := fun Q h => c185 (Q := Q) (h := h) (m := vcs (gv A.1 n none)) (vcs_lt hv'.2.2.2.1)
      simp only [pkO] at k1
      simp (disch := first | exact cat_i _ | exact cat_r _ | exact cat_n | omega) only [e83, u83_0, u83_1, u83_4, u83_5, u83_8, u83_11, u83_12, u83_13, u83_14, u83_17, u83_18, u83_21, u83_24, u83_26, u83_27, u83_28, u83_31, u83_32, u83_35, u83_38, u83_39, u83_42, u83_43, u83_44, u83_47, u83_48, u83_51, u83_54, u83_57, hT_0, hT_1, hT_6, hR_0_0, hR_0_1, c26X hX, zI_dt h, e32, hw, j1, k1, e39, e185, if_pos, if_neg, ↓reduceIte, false_and, and_false, false_or, or_false, ite_not, decide_true, decide_false, Bool.true_eq_false, Bool.false_eq_true, decide_eq_true_eq, decide_eq_false_iff_not, hp_I, hp_sI, hp_N, ev_k_s, ev_k_n, true_and, and_true, true_or, or_true, not_true_eq_false, not_false_eq_true, if_true, if_false, ite_self, Option.some.injEq, exists_eq_left', nb_0, nb_1, nb_z, zI_t, zI_f, zI_e, cat_i, cat_r, cat_n, iI_add, iI_sub, iI_mul, iI_neg, iI_lt, iI_le, iI_eq, iI_idx, iI_inT, iI_ne0, ite_false, ite_true, iN_0, iN_1, Int.reduceAdd, Int.reduceSub, Int.reduceMul, Int.reduceNeg, Int.reduceDiv, Int.reduceMod, Int.reduceEq, Int.reduceLT, Int.reduceLE, Int.reduceToNat, Nat.reduceAdd, Nat.reduceSub, Nat.reduceMul, Nat.reduceLT, Nat.reduceLeDiff, Nat.reduceEqDiff, Int.cast_ofNat_Int, Std.le_refl, and_self, Int.toNat_natCast, Int.toNat_zero, Nat.le_refl]
    | false =>
      rw [if_neg (by decide)]
      refine XR_id hX fun Q => ?_
      simp (disch := first | exact cat_i _ | exact cat_r _ | exact cat_n | omega) only [e83, u83_0, u83_1, u83_4, u83_5, u83_8, u83_11, u83_12, u83_13, u83_14, u83_17, u83_18, u83_21, u83_24, u83_26, u83_27, u83_28, u83_31, u83_32, u83_35, u83_38, u83_39, u83_42, u83_43, u83_44, u83_47, u83_48, u83_51, u83_54, u83_57, hT_0, hT_1, hT_6, hR_0_0, hR_0_1, c26X hX, zI_dt h, e32, hw, if_pos, if_neg, ↓reduceIte, false_and, and_false, false_or, or_false, ite_not, decide_true, decide_false, Bool.true_eq_false, Bool.false_eq_true, decide_eq_true_eq, decide_eq_false_iff_not, hp_I, hp_sI, hp_N, ev_k_s, ev_k_n, true_and, and_true, true_or, or_true, not_true_eq_false, not_false_eq_true, if_true, if_false, ite_self, Option.some.injEq, exists_eq_left', nb_0, nb_1, nb_z, zI_t, zI_f, zI_e, cat_i, cat_r, cat_n, iI_add, iI_sub, iI_mul, iI_neg, iI_lt, iI_le, iI_eq, iI_idx, iI_inT, iI_ne0, ite_false, ite_true, iN_0, iN_1, Int.reduceAdd, Int.reduceSub, Int.reduceMul, Int.reduceNeg, Int.reduceDiv, Int.reduceMod, Int.reduceEq, Int.reduceLT, Int.reduceLE, Int.reduceToNat, Nat.reduceAdd, Nat.reduceSub, Nat.reduceMul, Nat.reduceLT, Nat.reduceLeDiff, Nat.reduceEqDiff, Int.cast_ofNat_Int, Std.le_refl, and_self, Int.toNat_natCast, Int.toNat_zero, Nat.le_refl]
  · rename_i h
    refine XR_id hX fun Q => ?_
    simp (disch := first | exact cat_i _ | exact cat_r _ | exact cat_n | omega) only [e83, u83_0, u83_1, u83_4, u83_5, u83_8, u83_11, u83_12, u83_13, u83_14, u83_17, u83_18, u83_21, u83_24, u83_26, u83_27, u83_28, u83_31, u83_32, u83_35, u83_38, u83_39, u83_42, u83_43, u83_44, u83_47, u83_48, u83_51, u83_54, u83_57, hT_0, hT_1, hT_6, hR_0_0, hR_0_1, c26X hX, zI_df h, if_pos, if_neg, ↓reduceIte, false_and, and_false, false_or, or_false, ite_not, decide_true, decide_false, Bool.true_eq_false, Bool.false_eq_true, decide_eq_true_eq, decide_eq_false_iff_not, hp_I, hp_sI, hp_N, ev_k_s, ev_k_n, true_and, and_true, true_or, or_true, not_true_eq_false, not_false_eq_true, if_true, if_false, ite_self, Option.some.injEq, exists_eq_left', nb_0, nb_1, nb_z, zI_t, zI_f, zI_e, cat_i, cat_r, cat_n, iI_add, iI_sub, iI_mul, iI_neg, iI_lt, iI_le, iI_eq, iI_idx, iI_inT, iI_ne0, ite_false, ite_true, iN_0, iN_1, Int.reduceAdd, Int.reduceSub, Int.reduceMul, Int.reduceNeg, Int.reduceDiv, Int.reduceMod, Int.reduceEq, Int.reduceLT, Int.reduceLE, Int.reduceToNat, Nat.reduceAdd, Nat.reduceSub, Nat.reduceMul, Nat.reduceLT, Nat.reduceLeDiff, Nat.reduceEqDiff, Int.cast_ofNat_Int, Std.le_refl, and_self, Int.toNat_natCast, Int.toNat_zero, Nat.le_refl]
end OP
