/-! pieces that change -/
theorem isp_sep {t t' : Nat} (h : isp t) (h' : isp t') : t = t' ∨ t + 5 ≤ t' ∨ t' + 5 ≤ t := by
  unfold isp at h h'
  omega
theorem isp_lt {t : Nat} (h : isp t) : 1 ≤ t ∧ t ≤ 44 := by
  unfold isp at h
  omega
def tkf (I : Nat → Nat → Int32) (t t' a b : Nat) : Nat → Nat → Int32 := fb_u2 (fb_u2 (fb_u2 I (t + 2) b (I (t' + 2) a)) (t + 3) b (I (t' + 3) a)) (t + 4) b (I (t' + 4) a)
theorem tkf_r {I : Nat → Nat → Int32} {t t' a b j c : Nat} (h1 : 2 ≤ j) (h2 : j ≤ 4) : tkf I t t' a b (t + j) c = if c = b then I (t' + j) a else I (t + j) c := by
  unfold tkf
  rcases (show j = 2 ∨ j = 3 ∨ j = 4 by omega) with rfl | rfl | rfl
  · rw [u2_ne (by omega), u2_ne (by omega)]
    split
    · subst c; rw [u2_eq]
    · rw [u2_ne (by omega)]
  · rw [u2_ne (by omega)]
    split
    · subst c; rw [u2_eq]
    · rw [u2_ne (by omega), u2_ne (by omega)]
  · split
    · subst c; rw [u2_eq]
    · rw [u2_ne (by omega), u2_ne (by omega), u2_ne (by omega)]
theorem tkf_o {I : Nat → Nat → Int32} {t t' a b i c : Nat} (h : i < t + 2 ∨ t + 4 < i) : tkf I t t' a b i c = I i c := by
  unfold tkf
  rw [u2_ne (by omega), u2_ne (by omega), u2_ne (by omega)]
def Oth (I I' : Nat → Nat → Int32) (t : Nat) : Prop := ∀ i k, (i < t ∨ t + 5 ≤ i) → I' i k = I i k
section WR
variable {Q : Option Value → fb_H → Prop} {c d : Int} {n m b b' : Nat} {v w : Nat × Nat × Nat} {L t t' : Nat} {σ : Nat → Nat} {I : Nat → Nat → Int32} {S : Co}
theorem c48 (ht : isp t) (ht' : isp t') {p q : Nat} (hp1 : p < 10) (hq : q < 10) : ev_c 48 [.ref t, .ref t', .int (iI (p : Int)), .int (iI (q : Int))] (hp L σ I) Q = Q none (hp L σ (tkf I t t' p q)) := by
  have hsep := isp_sep ht ht'
  simp (disch := first | exact cat_i _ | exact cat_r _ | exact cat_n | omega) only [e48, u48_0, u48_1, u48_4, u48_5, u48_6, u48_9, u48_10, u48_11, u48_12, u48_13, u48_16, u48_17, u48_18, u48_21, u48_22, u48_23, u48_24, u48_25, u48_28, u48_29, u48_30, u48_33, u48_34, u48_35, u48_36, hT_p ht, hT_p2 ht, hT_p3 ht, hT_p4 ht, hR_p1 ht, hR_p2 ht, hR_p3 ht, hT_p ht', hT_p2 ht', hT_p3 ht', hT_p4 ht', hR_p1 ht', hR_p2 ht', hR_p3 ht', ↓reduceIte, false_and, and_false, false_or, or_false, ite_not, decide_true, decide_false, Bool.true_eq_false, Bool.false_eq_true, decide_eq_true_eq, decide_eq_false_iff_not, hp_I, hp_sI, hp_N, ev_k_s, ev_k_n, true_and, and_true, true_or, or_true, not_true_eq_false, not_false_eq_true, if_true, if_false, ite_self, Option.some.injEq, exists_eq_left', nb_0, nb_1, nb_z, zI_t, zI_f, zI_e, cat_i, cat_r, cat_n, iI_add, iI_sub, iI_mul, iI_neg, iI_lt, iI_le, iI_eq, iI_idx, iI_inT, iI_ne0, ite_false, ite_true, iN_0, iN_1, Int.reduceAdd, Int.reduceSub, Int.reduceMul, Int.reduceNeg, Int.reduceDiv, Int.reduceMod, Int.reduceEq, Int.reduceLT, Int.reduceLE, Int.reduceToNat, Nat.reduceAdd, Nat.reduceSub, Nat.reduceMul, Nat.reduceLT, Nat.reduceLeDiff, Nat.reduceEqDiff, Int.cast_ofNat_Int, Std.le_refl, and_self, Int.toNat_natCast, Int.toNat_zero, Nat.le_refl]
  unfold tkf
  rw [show fb_u2 I (t + 2) q (I (t' + 2) p) (t' + 3) p = I (t' + 3) p from u2_ne (by omega), show fb_u2 (fb_u2 I (t + 2) q (I (t' + 2) p)) (t + 3) q (I (t' + 3) p) (t' + 4) p = I (t' + 4) p from (u2_ne (by omega)).trans (u2_ne (by omega))]
theorem c47s (ht : isp t) (ht' : isp t') {k : Nat} (hk : k < 3) : ev_w 47 2 [.ref t, .ref t', .int (iI (k : Int))] [] (hp L σ I) Q = ev_w 47 2 [.ref t, .ref t', .int (iI ((k : Int) + 1))] [] (hp L σ (fb_u2 I (t + 1) k (I (t' + 1) k))) Q := by
  rw [u47_2]
  simp (disch := first | exact cat_i _ | exact cat_r _ | exact cat_n | omega) only [u47_3, u47_4, u47_7, u47_8, u47_11, u47_12, u47_15, u47_16, u47_17, u47_20, u47_21, u47_22, u47_23, u47_26, hT_p ht, hT_p ht', hT_p1 ht, hT_p1 ht', hR_p0 ht, hR_p0 ht', if_pos, if_neg, ↓reduceIte, false_and, and_false, false_or, or_false, ite_not, decide_true, decide_false, Bool.true_eq_false, Bool.false_eq_true, decide_eq_true_eq, decide_eq_false_iff_not, hp_I, hp_sI, hp_N, ev_k_s, ev_k_n, true_and, and_true, true_or, or_true, not_true_eq_false, not_false_eq_true, if_true, if_false, ite_self, Option.some.injEq, exists_eq_left', nb_0, nb_1, nb_z, zI_t, zI_f, zI_e, cat_i, cat_r, cat_n, iI_add, iI_sub, iI_mul, iI_neg, iI_lt, iI_le, iI_eq, iI_idx, iI_inT, iI_ne0, ite_false, ite_true, iN_0, iN_1, Int.reduceAdd, Int.reduceSub, Int.reduceMul, Int.reduceNeg, Int.reduceDiv, Int.reduceMod, Int.reduceEq, Int.reduceLT, Int.reduceLE, Int.reduceToNat, Nat.reduceAdd, Nat.reduceSub, Nat.reduceMul, Nat.reduceLT, Nat.reduceLeDiff, Nat.reduceEqDiff, Int.cast_ofNat_Int, Std.le_refl, and_self, Int.toNat_natCast, Int.toNat_zero, Nat.le_refl]
theorem c47 (ht : isp t) (ht' : isp t') (hne : t ≠ t') (hr : RepP I t' S) (hv : VS S) : ∃ I', (∀ Q : Option Value → fb_H → Prop, ev_c 47 [.ref t, .ref t'] (hp L σ I) Q = Q none (hp L σ I')) ∧ RepP I' t S ∧ Oth I I' t := by
  have hsep := isp_sep ht ht'
  have hl := hv.2.2.2.1
  obtain ⟨r0, r1, r2, r3, r4⟩ := hr
  let I1 : Nat → Nat → Int32 := fb_u2 (fb_u2 (fb_u2 (fb_u2 I (t + 1) 0 (I (t' + 1) 0)) (t + 1) 1 (I (t' + 1) 1)) (t + 1) 2 (I (t' + 1) 2)) t 4 (I t' 4)
  have o1 : ∀ i k, i < t ∨ t + 2 ≤ i → I1 i k = I i k := fun i k h => by
    show fb_u2 (fb_u2 (fb_u2 (fb_u2 I (t + 1) 0 (I (t' + 1) 0)) (t + 1) 1 (I (t' + 1) 1)) (t + 1) 2 (I (t' + 1) 2)) t 4 (I t' 4) i k = I i k
    rw [u2_ne (by omega), u2_ne (by omega), u2_ne (by omega), u2_ne (by omega)]
  have lp := fun Q : Option Value → fb_H → Prop => lf0 (fun (J : Nat → Nat → Int32) (k : Nat) => ev_w 47 39 [.ref t, .ref t', .int (iI (k : Int))] [] (hp L σ J) Q) (fun J k => tkf J t t' k k) (fun J k => (∀ i q, (i < t + 2 ∨ t + 5 ≤ i) → J i q = I1 i q) ∧ ∀ j, 2 ≤ j → j ≤ 4 → ∀ q, q < k → J (t + j) q = I (t' + j) q) S.2.length (fun J k hk hJ => by
    obtain ⟨j1, j2⟩ := hJ
    refine ⟨⟨fun i q hi => ?_, fun j ja jb q hq => ?_⟩, ?_⟩
    · rw [tkf_o (by omega)]; exact j1 i q hi
    · rw [tkf_r ja jb]
      split
      · subst q; rw [j1 _ _ (by omega), o1 _ _ (by omega)]
      · exact j2 j ja jb q (by omega)
    · show ev_w 47 39 [.ref t, .ref t', .int (iI (k : Int))] [] (hp L σ J) Q = _
      have e4 : J t 4 = iI (S.2.length : Int) := by
        rw [j1 _ _ (by omega), ← r3]
        exact u2_eq
      rw [u47_39]
      simp (disch := first | exact cat_i _ | exact cat_r _ | exact cat_n | omega) only [u47_40, u47_41, u47_44, u47_47, u47_48, u47_49, u47_50, u47_51, u47_54, u47_57, hT_p ht, hT_p ht', e4, c48 ht ht' (show k < 10 by omega) (show k < 10 by omega), if_pos, if_neg, ↓reduceIte, false_and, and_false, false_or, or_false, ite_not, decide_true, decide_false, Bool.true_eq_false, Bool.false_eq_true, decide_eq_true_eq, decide_eq_false_iff_not, hp_I, hp_sI, hp_N, ev_k_s, ev_k_n, true_and, and_true, true_or, or_true, not_true_eq_false, not_false_eq_true, if_true, if_false, ite_self, Option.some.injEq, exists_eq_left', nb_0, nb_1, nb_z, zI_t, zI_f, zI_e, cat_i, cat_r, cat_n, iI_add, iI_sub, iI_mul, iI_neg, iI_lt, iI_le, iI_eq, iI_idx, iI_inT, iI_ne0, ite_false, ite_true, iN_0, iN_1, Int.reduceAdd, Int.reduceSub, Int.reduceMul, Int.reduceNeg, Int.reduceDiv, Int.reduceMod, Int.reduceEq, Int.reduceLT, Int.reduceLE, Int.reduceToNat, Nat.reduceAdd, Nat.reduceSub, Nat.reduceMul, Nat.reduceLT, Nat.reduceLeDiff, Nat.reduceEqDiff, Int.cast_ofNat_Int, Std.le_refl, and_self, Int.toNat_natCast, Int.toNat_zero, Nat.le_refl]
      rfl) I1 ⟨fun _ _ _ => rfl, fun _ _ _ _ h => absurd h (by omega)⟩
  generalize hJ : (List.range S.2.length).foldl (fun J k => tkf J t t' k k) I1 = J at lp
  obtain ⟨j1, j2⟩ := (lp (fun _ _ => True)).2
  have e4 : J t 4 = iI (S.2.length : Int) := by
    rw [j1 _ _ (by omega), ← r3]
    exact u2_eq
  refine ⟨J, fun Q => ?_, ⟨?_, ?_, ?_, e4, fun q hq => ?_⟩, fun i k hi => ?_⟩
  · have l1 := (lp Q).1
    have a1 : fb_u2 I (t + 1) 0 (I (t' + 1) 0) (t' + 1) 1 = I (t' + 1) 1 := u2_ne (by omega)
    have a2 : fb_u2 (fb_u2 I (t + 1) 0 (I (t' + 1) 0)) (t + 1) 1 (I (t' + 1) 1) (t' + 1) 2 = I (t' + 1) 2 := (u2_ne (by omega)).trans (u2_ne (by omega))
    have a3 : fb_u2 (fb_u2 (fb_u2 I (t + 1) 0 (I (t' + 1) 0)) (t + 1) 1 (I (t' + 1) 1)) (t + 1) 2 (I (t' + 1) 2) t' 4 = I t' 4 := (u2_ne (by omega)).trans ((u2_ne (by omega)).trans (u2_ne (by omega)))
    have s0 := c47s (L := L) (σ := σ) (Q := Q) (I := I) ht ht' (k := 0) (by omega)
    have s1 := c47s (L := L) (σ := σ) (Q := Q) (I := fb_u2 I (t + 1) 0 (I (t' + 1) 0)) ht ht' (k := 1) (by omega)
    have s2 := c47s (L := L) (σ := σ) (Q := Q) (I := fb_u2 (fb_u2 I (t + 1) 0 (I (t' + 1) 0)) (t + 1) 1 (I (t' + 1) 1)) ht ht' (k := 2) (by omega)
    rw [a1] at s1
    rw [a2] at s2
    rw [e47, u47_0, u47_1 rfl]
    refine (s0.trans (s1.trans s2)).trans ?_
    clear hsep hJ
    simp (disch := first | exact cat_i _ | exact cat_r _ | exact cat_n | omega) only [u47_2, u47_3, u47_4, u47_7, u47_8, u47_29, u47_30, u47_31, u47_34, u47_37, u47_38, hT_p ht, hT_p ht', hT_p1 ht, hR_p0 ht, a3, if_pos, if_neg, ↓reduceIte, false_and, and_false, false_or, or_false, ite_not, decide_true, decide_false, Bool.true_eq_false, Bool.false_eq_true, decide_eq_true_eq, decide_eq_false_iff_not, hp_I, hp_sI, hp_N, ev_k_s, ev_k_n, true_and, and_true, true_or, or_true, not_true_eq_false, not_false_eq_true, if_true, if_false, ite_self, Option.some.injEq, exists_eq_left', nb_0, nb_1, nb_z, zI_t, zI_f, zI_e, cat_i, cat_r, cat_n, iI_add, iI_sub, iI_mul, iI_neg, iI_lt, iI_le, iI_eq, iI_idx, iI_inT, iI_ne0, ite_false, ite_true, iN_0, iN_1, Int.reduceAdd, Int.reduceSub, Int.reduceMul, Int.reduceNeg, Int.reduceDiv, Int.reduceMod, Int.reduceEq, Int.reduceLT, Int.reduceLE, Int.reduceToNat, Nat.reduceAdd, Nat.reduceSub, Nat.reduceMul, Nat.reduceLT, Nat.reduceLeDiff, Nat.reduceEqDiff, Int.cast_ofNat_Int, Std.le_refl, and_self, Int.toNat_natCast, Int.toNat_zero, Nat.le_refl]
    refine Eq.trans l1 ?_
    simp (disch := first | exact cat_i _ | exact cat_r _ | exact cat_n | omega) only [u47_39, u47_40, u47_41, u47_44, u47_60, hT_p ht, e4, if_pos, if_neg, ↓reduceIte, false_and, and_false, false_or, or_false, ite_not, decide_true, decide_false, Bool.true_eq_false, Bool.false_eq_true, decide_eq_true_eq, decide_eq_false_iff_not, hp_I, hp_sI, hp_N, ev_k_s, ev_k_n, true_and, and_true, true_or, or_true, not_true_eq_false, not_false_eq_true, if_true, if_false, ite_self, Option.some.injEq, exists_eq_left', nb_0, nb_1, nb_z, zI_t, zI_f, zI_e, cat_i, cat_r, cat_n, iI_add, iI_sub, iI_mul, iI_neg, iI_lt, iI_le, iI_eq, iI_idx, iI_inT, iI_ne0, ite_false, ite_true, iN_0, iN_1, Int.reduceAdd, Int.reduceSub, Int.reduceMul, Int.reduceNeg, Int.reduceDiv, Int.reduceMod, Int.reduceEq, Int.reduceLT, Int.reduceLE, Int.reduceToNat, Nat.reduceAdd, Nat.reduceSub, Nat.reduceMul, Nat.reduceLT, Nat.reduceLeDiff, Nat.reduceEqDiff, Int.cast_ofNat_Int, Std.le_refl, and_self, Int.toNat_natCast, Int.toNat_zero, Nat.le_refl]
  · rw [j1 _ _ (by omega), ← r0]
    exact (u2_ne (by omega)).trans ((u2_ne (by omega)).trans ((u2_ne (by omega)).trans u2_eq))
  · rw [j1 _ _ (by omega), ← r1]
    exact (u2_ne (by omega)).trans ((u2_ne (by omega)).trans u2_eq)
  · rw [j1 _ _ (by omega), ← r2]
    exact (u2_ne (by omega)).trans u2_eq
  · rw [j2 2 (by omega) (by omega) q hq, j2 3 (by omega) (by omega) q hq, j2 4 (by omega) (by omega) q hq]
    exact r4 q hq
  · rw [j1 _ _ (by omega), o1 _ _ (by omega)]
end WR
