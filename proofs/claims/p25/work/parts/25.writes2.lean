def ins (S : Co) (n : Nat) (x : Ch) : Co := (S.1, S.2.insertIdx n x)
def rem (S : Co) (n : Nat) : Co := (S.1, S.2.eraseIdx n)
def gv (S : Co) (n : Nat) (vo : Option (Nat × Nat × Nat)) : Co := (S.1, S.2.set n ((ch S n).1, (ch S n).2.1, vo))
def stk (S : Co) (k : Nat) (v : Nat) : Co := ((if k = 0 then v else S.1.1, if k = 1 then v else S.1.2.1, if k = 2 then v else S.1.2.2), S.2)
theorem ch_ins {S : Co} {n c : Nat} {x : Ch} (h : n ≤ S.2.length) : ch (ins S n x) c = if c < n then ch S c else if c = n then x else ch S (c - 1) := by
  unfold ch ins
  rw [List.getD_eq_getElem?_getD, List.getElem?_insertIdx]
  split
  · rw [List.getD_eq_getElem?_getD]
  · split
    · rw [if_pos (by omega)]; rfl
    · rw [List.getD_eq_getElem?_getD]
theorem len_ins {S : Co} {n : Nat} {x : Ch} (h : n ≤ S.2.length) : (ins S n x).2.length = S.2.length + 1 := by
  unfold ins
  dsimp only
  rw [List.length_insertIdx, if_pos h]
theorem ch_rem {S : Co} {n c : Nat} : ch (rem S n) c = if c < n then ch S c else ch S (c + 1) := by
  unfold ch rem
  rw [List.getD_eq_getElem?_getD, List.getElem?_eraseIdx]
  split <;> rw [List.getD_eq_getElem?_getD]
theorem len_rem {S : Co} {n : Nat} (h : n < S.2.length) : (rem S n).2.length = S.2.length - 1 := by
  unfold rem
  dsimp only
  rw [List.length_eraseIdx, if_pos h]
theorem ch_gv {S : Co} {n c : Nat} {vo : Option (Nat × Nat × Nat)} (h : n < S.2.length) : ch (gv S n vo) c = if c = n then ((ch S n).1, (ch S n).2.1, vo) else ch S c := by
  unfold gv
  generalize ((ch S n).1, (ch S n).2.1, vo) = x
  unfold ch
  rw [List.getD_eq_getElem?_getD, List.getElem?_set]
  split
  · subst n; rw [if_pos rfl]; rfl
  · rw [if_neg (by omega), List.getD_eq_getElem?_getD]
theorem len_gv {S : Co} {n : Nat} {vo : Option (Nat × Nat × Nat)} : (gv S n vo).2.length = S.2.length := List.length_set ..
theorem VS_ins {S : Co} {n : Nat} {x : Ch} (hv : VS S) (h : n ≤ S.2.length) (hl : S.2.length < 10) (hx : VC x) : VS (ins S n x) := by
  refine ⟨hv.1, hv.2.1, hv.2.2.1, by rw [len_ins h]; omega, fun c hc => ?_⟩
  rw [len_ins h] at hc
  rw [ch_ins h]
  split
  · exact hv.2.2.2.2 c (by omega)
  · split
    · exact hx
    · exact hv.2.2.2.2 (c - 1) (by omega)
theorem VS_rem {S : Co} {n : Nat} (hv : VS S) (h : n < S.2.length) : VS (rem S n) := by
  refine ⟨hv.1, hv.2.1, hv.2.2.1, by rw [len_rem h]; have := hv.2.2.2.1; omega, fun c hc => ?_⟩
  rw [len_rem h] at hc
  rw [ch_rem]
  split
  · exact hv.2.2.2.2 c (by omega)
  · exact hv.2.2.2.2 (c + 1) (by omega)
theorem VS_gv {S : Co} {n : Nat} {vo : Option (Nat × Nat × Nat)} (hv : VS S) (h : n < S.2.length) (hx : ∀ v, vo = some v → VV v) : VS (gv S n vo) := by
  refine ⟨hv.1, hv.2.1, hv.2.2.1, by rw [len_gv]; exact hv.2.2.2.1, fun c hc => ?_⟩
  rw [len_gv] at hc
  rw [ch_gv h]
  have a := hv.2.2.2.2 n h
  split
  · exact ⟨a.1, a.2.1, a.2.2.1, hx⟩
  · exact hv.2.2.2.2 c hc
def pu3 (J : Nat → Nat → Int32) (t n : Nat) (a b c : Int32) : Nat → Nat → Int32 := fb_u2 (fb_u2 (fb_u2 J (t + 2) n a) (t + 3) n b) (t + 4) n c
theorem pu3_2 {J : Nat → Nat → Int32} {t n q : Nat} {a b c : Int32} : pu3 J t n a b c (t + 2) q = if q = n then a else J (t + 2) q := by
  unfold pu3
  rw [u2_ne (by omega), u2_ne (by omega)]
  split
  · subst q; rw [u2_eq]
  · rw [u2_ne (by omega)]
theorem pu3_3 {J : Nat → Nat → Int32} {t n q : Nat} {a b c : Int32} : pu3 J t n a b c (t + 3) q = if q = n then b else J (t + 3) q := by
  unfold pu3
  rw [u2_ne (by omega)]
  split
  · subst q; rw [u2_eq]
  · rw [u2_ne (by omega), u2_ne (by omega)]
theorem pu3_4 {J : Nat → Nat → Int32} {t n q : Nat} {a b c : Int32} : pu3 J t n a b c (t + 4) q = if q = n then c else J (t + 4) q := by
  unfold pu3
  split
  · subst q; rw [u2_eq]
  · rw [u2_ne (by omega), u2_ne (by omega), u2_ne (by omega)]
theorem pu3_o {J : Nat → Nat → Int32} {t n i q : Nat} {a b c : Int32} (h : i < t + 2 ∨ t + 4 < i) : pu3 J t n a b c i q = J i q := by
  unfold pu3
  rw [u2_ne (by omega), u2_ne (by omega), u2_ne (by omega)]
section WS
variable {Q : Option Value → fb_H → Prop} {c d : Int} {n m b b' : Nat} {v w : Nat × Nat × Nat} {L t t' : Nat} {σ : Nat → Nat} {I : Nat → Nat → Int32} {S : Co}
theorem c41 (ht : isp t) (hr : RepP I t S) (hv : VS S) (hn : n ≤ S.2.length) (hl : S.2.length < 10) (x : Ch) : ∃ I', (∀ Q : Option Value → fb_H → Prop, ev_c 41 [.ref t, .int (iI (n : Int)), .int (iI (x.1 : Int)), .int (iI (x.2.1 : Int)), .int (iI (pkO x.2.2))] (hp L σ I) Q = Q none (hp L σ I')) ∧ RepP I' t (ins S n x) ∧ Oth I I' t := by
  obtain ⟨r0, r1, r2, r3, r4⟩ := hr
  have lp := fun Q : Option Value → fb_H → Prop => lf0 (fun (J : Nat → Nat → Int32) (k : Nat) => ev_w 41 28 [.ref t, .int (iI (n : Int)), .int (iI (x.1 : Int)), .int (iI (x.2.1 : Int)), .int (iI (pkO x.2.2)), .int (iI ((S.2.length - k : Nat) : Int))] [] (hp L σ J) Q) (fun J k => tkf J t t (S.2.length - k - 1) (S.2.length - k)) (fun J k => (∀ i q, (i < t + 2 ∨ t + 5 ≤ i) → J i q = I i q) ∧ ∀ j, 2 ≤ j → j ≤ 4 → ∀ q, q ≤ S.2.length → J (t + j) q = if S.2.length - k < q then I (t + j) (q - 1) else I (t + j) q) (S.2.length - n) (fun J k hk hJ => by
    obtain ⟨j1, j2⟩ := hJ
    refine ⟨⟨fun i q hi => ?_, fun j ja jb q hq => ?_⟩, ?_⟩
    · rw [tkf_o (by omega)]; exact j1 i q hi
    · rw [tkf_r ja jb]
      split
      · subst q; rw [j2 j ja jb _ (by omega), if_neg (by omega), if_pos (by omega)]
      · rw [j2 j ja jb q hq]
        split
        · rw [if_pos (by omega)]
        · rw [if_neg (by omega)]
    · show ev_w 41 28 [.ref t, .int (iI (n : Int)), .int (iI (x.1 : Int)), .int (iI (x.2.1 : Int)), .int (iI (pkO x.2.2)), .int (iI ((S.2.length - k : Nat) : Int))] [] (hp L σ J) Q = _
      have e1 : ((S.2.length - k : Nat) : Int) - 1 = ((S.2.length - k - 1 : Nat) : Int) := by omega
      have e2 : ((S.2.length - k : Nat) : Int) + -1 = ((S.2.length - (k + 1) : Nat) : Int) := by omega
      rw [u41_28]
      simp (disch := first | exact cat_i _ | exact cat_r _ | exact cat_n | omega) only [u41_30, u41_31, u41_34, u41_35, u41_36, u41_38, u41_39, u41_40, u41_42, u41_45, u41_48, hT_p ht, e1, e2, c48 ht ht (show S.2.length - k - 1 < 10 by omega) (show S.2.length - k < 10 by omega), if_pos, if_neg, ↓reduceIte, false_and, and_false, false_or, or_false, ite_not, decide_true, decide_false, Bool.true_eq_false, Bool.false_eq_true, decide_eq_true_eq, decide_eq_false_iff_not, hp_I, hp_sI, hp_N, ev_k_s, ev_k_n, true_and, and_true, true_or, or_true, not_true_eq_false, not_false_eq_true, if_true, if_false, ite_self, Option.some.injEq, exists_eq_left', nb_0, nb_1, nb_z, zI_t, zI_f, zI_e, cat_i, cat_r, cat_n, iI_add, iI_sub, iI_mul, iI_neg, iI_lt, iI_le, iI_eq, iI_idx, iI_inT, iI_ne0, ite_false, ite_true, iN_0, iN_1, Int.reduceAdd, Int.reduceSub, Int.reduceMul, Int.reduceNeg, Int.reduceDiv, Int.reduceMod, Int.reduceEq, Int.reduceLT, Int.reduceLE, Int.reduceToNat, Nat.reduceAdd, Nat.reduceSub, Nat.reduceMul, Nat.reduceLT, Nat.reduceLeDiff, Nat.reduceEqDiff, Int.cast_ofNat_Int, Std.le_refl, and_self, Int.toNat_natCast, Int.toNat_zero, Nat.le_refl]) I ⟨fun _ _ _ => rfl, fun _ _ _ q hq => by rw [if_neg (by omega)]⟩
  generalize hJ : (List.range (S.2.length - n)).foldl (fun J k => tkf J t t (S.2.length - k - 1) (S.2.length - k)) I = J at lp
  obtain ⟨j1, j2⟩ := (lp (fun _ _ => True)).2
  have e4 : J t 4 = iI (S.2.length : Int) := (j1 _ _ (by omega)).trans r3
  have e5 : S.2.length - (S.2.length - n) = n := by omega
  rw [e5] at j2
  refine ⟨fb_u2 (pu3 J t n (iI (x.1 : Int)) (iI (x.2.1 : Int)) (iI (pkO x.2.2))) t 4 (iI ((S.2.length : Int) + 1)), fun Q => ?_, ⟨?_, ?_, ?_, ?_, fun q hq => ?_⟩, fun i k hi => ?_⟩
  · have l1 := (lp Q).1
    rw [e5, Nat.sub_zero] at l1
    have a3 : fb_u2 (fb_u2 (fb_u2 J (t + 2) n (iI (x.1 : Int))) (t + 3) n (iI (x.2.1 : Int))) (t + 4) n (iI (pkO x.2.2)) t 4 = iI (S.2.length : Int) := (u2_ne (by omega)).trans ((u2_ne (by omega)).trans ((u2_ne (by omega)).trans e4))
    clear hJ
    simp (disch := first | exact cat_i _ | exact cat_r _ | exact cat_n | omega) only [u41_0, u41_1, u41_4, u41_5, u41_6, u41_9, u41_12, u41_13, u41_16, u41_18, u41_21, u41_22, u41_23, u41_26, e41, hT_p ht, r3, if_pos, if_neg, ↓reduceIte, false_and, and_false, false_or, or_false, ite_not, decide_true, decide_false, Bool.true_eq_false, Bool.false_eq_true, decide_eq_true_eq, decide_eq_false_iff_not, hp_I, hp_sI, hp_N, ev_k_s, ev_k_n, true_and, and_true, true_or, or_true, not_true_eq_false, not_false_eq_true, if_true, if_false, ite_self, Option.some.injEq, exists_eq_left', nb_0, nb_1, nb_z, zI_t, zI_f, zI_e, cat_i, cat_r, cat_n, iI_add, iI_sub, iI_mul, iI_neg, iI_lt, iI_le, iI_eq, iI_idx, iI_inT, iI_ne0, ite_false, ite_true, iN_0, iN_1, Int.reduceAdd, Int.reduceSub, Int.reduceMul, Int.reduceNeg, Int.reduceDiv, Int.reduceMod, Int.reduceEq, Int.reduceLT, Int.reduceLE, Int.reduceToNat, Nat.reduceAdd, Nat.reduceSub, Nat.reduceMul, Nat.reduceLT, Nat.reduceLeDiff, Nat.reduceEqDiff, Int.cast_ofNat_Int, Std.le_refl, and_self, Int.toNat_natCast, Int.toNat_zero, Nat.le_refl]
    refine Eq.trans l1 ?_
    simp (disch := first | exact cat_i _ | exact cat_r _ | exact cat_n | omega) only [u41_28, u41_30, u41_31, u41_51, u41_52, u41_55, u41_56, u41_57, u41_58, u41_59, u41_62, u41_63, u41_64, u41_65, u41_66, u41_69, u41_70, u41_72, u41_73, u41_74, u41_75, u41_78, u41_79, u41_80, u41_83, hT_p ht, hT_p2 ht, hT_p3 ht, hT_p4 ht, hR_p1 ht, hR_p2 ht, hR_p3 ht, a3, if_pos, if_neg, ↓reduceIte, false_and, and_false, false_or, or_false, ite_not, decide_true, decide_false, Bool.true_eq_false, Bool.false_eq_true, decide_eq_true_eq, decide_eq_false_iff_not, hp_I, hp_sI, hp_N, ev_k_s, ev_k_n, true_and, and_true, true_or, or_true, not_true_eq_false, not_false_eq_true, if_true, if_false, ite_self, Option.some.injEq, exists_eq_left', nb_0, nb_1, nb_z, zI_t, zI_f, zI_e, cat_i, cat_r, cat_n, iI_add, iI_sub, iI_mul, iI_neg, iI_lt, iI_le, iI_eq, iI_idx, iI_inT, iI_ne0, ite_false, ite_true, iN_0, iN_1, Int.reduceAdd, Int.reduceSub, Int.reduceMul, Int.reduceNeg, Int.reduceDiv, Int.reduceMod, Int.reduceEq, Int.reduceLT, Int.reduceLE, Int.reduceToNat, Nat.reduceAdd, Nat.reduceSub, Nat.reduceMul, Nat.reduceLT, Nat.reduceLeDiff, Nat.reduceEqDiff, Int.cast_ofNat_Int, Std.le_refl, and_self, Int.toNat_natCast, Int.toNat_zero, Nat.le_refl]
    rfl
  · rw [u2_ne (by omega), pu3_o (by omega), j1 _ _ (by omega)]; exact r0
  · rw [u2_ne (by omega), pu3_o (by omega), j1 _ _ (by omega)]; exact r1
  · rw [u2_ne (by omega), pu3_o (by omega), j1 _ _ (by omega)]; exact r2
  · rw [u2_eq, len_ins hn]; rfl
  · rw [len_ins hn] at hq
    have hc := ch_ins (S := S) (c := q) (x := x) hn
    rw [u2_ne (by omega), u2_ne (by omega), u2_ne (by omega), pu3_2, pu3_3, pu3_4]
    by_cases q1 : q = n
    · rw [if_neg (by omega), if_pos q1] at hc
      rw [hc, if_pos q1, if_pos q1, if_pos q1]
      exact ⟨rfl, rfl, rfl⟩
    · have k2 := j2 2 (by omega) (by omega) q (by omega)
      have k3 := j2 3 (by omega) (by omega) q (by omega)
      have k4 := j2 4 (by omega) (by omega) q (by omega)
      rw [if_neg q1, if_neg q1, if_neg q1, k2, k3, k4]
      by_cases q2 : q < n
      · rw [if_pos q2] at hc
        rw [hc, if_neg (by omega), if_neg (by omega), if_neg (by omega)]
        exact r4 q (by omega)
      · rw [if_neg q2, if_neg q1] at hc
        rw [hc, if_pos (by omega), if_pos (by omega), if_pos (by omega)]
        exact r4 (q - 1) (by omega)
  · rw [u2_ne (by omega), pu3_o (by omega), j1 _ _ (by omega)]
theorem c42 (ht : isp t) (hr : RepP I t S) (hv : VS S) (hn : n < S.2.length) : ∃ I', (∀ Q : Option Value → fb_H → Prop, ev_c 42 [.ref t, .int (iI (n : Int))] (hp L σ I) Q = Q none (hp L σ I')) ∧ RepP I' t (rem S n) ∧ Oth I I' t := by
  have hl := hv.2.2.2.1
  have hr0 := hr
  obtain ⟨r0, r1, r2, r3, r4⟩ := hr
  have lp := fun Q : Option Value → fb_H → Prop => lf0 (fun (J : Nat → Nat → Int32) (k : Nat) => ev_w 42 11 [.ref t, .int (iI (n : Int)), .int (iI ((n + k : Nat) : Int))] [] (hp L σ J) Q) (fun J k => tkf J t t (n + k + 1) (n + k)) (fun J k => (∀ i q, (i < t + 2 ∨ t + 5 ≤ i) → J i q = I i q) ∧ ∀ j, 2 ≤ j → j ≤ 4 → ∀ q, q < S.2.length → J (t + j) q = if n ≤ q ∧ q < n + k then I (t + j) (q + 1) else I (t + j) q) (S.2.length - 1 - n) (fun J k hk hJ => by
    obtain ⟨j1, j2⟩ := hJ
    have e4 : J t 4 = iI (S.2.length : Int) := (j1 _ _ (by omega)).trans r3
    refine ⟨⟨fun i q hi => ?_, fun j ja jb q hq => ?_⟩, ?_⟩
    · rw [tkf_o (by omega)]; exact j1 i q hi
    · rw [tkf_r ja jb]
      split
      · subst q; rw [j2 j ja jb _ (by omega), if_neg (by omega), if_pos (by omega)]
      · rw [j2 j ja jb q hq]
        split
        · rw [if_pos (by omega)]
        · rw [if_neg (by omega)]
    · show ev_w 42 11 [.ref t, .int (iI (n : Int)), .int (iI ((n + k : Nat) : Int))] [] (hp L σ J) Q = _
      have e1 : ((n + k : Nat) : Int) + 1 = ((n + k + 1 : Nat) : Int) := by omega
      rw [u42_11]
      simp (disch := first | exact cat_i _ | exact cat_r _ | exact cat_n | omega) only [u42_12, u42_13, u42_16, u42_17, u42_18, u42_21, u42_22, u42_23, u42_24, u42_25, u42_26, u42_27, u42_30, u42_33, hT_p ht, e4, e1, c48 ht ht (show n + k + 1 < 10 by omega) (show n + k < 10 by omega), if_pos, if_neg, ↓reduceIte, false_and, and_false, false_or, or_false, ite_not, decide_true, decide_false, Bool.true_eq_false, Bool.false_eq_true, decide_eq_true_eq, decide_eq_false_iff_not, hp_I, hp_sI, hp_N, ev_k_s, ev_k_n, true_and, and_true, true_or, or_true, not_true_eq_false, not_false_eq_true, if_true, if_false, ite_self, Option.some.injEq, exists_eq_left', nb_0, nb_1, nb_z, zI_t, zI_f, zI_e, cat_i, cat_r, cat_n, iI_add, iI_sub, iI_mul, iI_neg, iI_lt, iI_le, iI_eq, iI_idx, iI_inT, iI_ne0, ite_false, ite_true, iN_0, iN_1, Int.reduceAdd, Int.reduceSub, Int.reduceMul, Int.reduceNeg, Int.reduceDiv, Int.reduceMod, Int.reduceEq, Int.reduceLT, Int.reduceLE, Int.reduceToNat, Nat.reduceAdd, Nat.reduceSub, Nat.reduceMul, Nat.reduceLT, Nat.reduceLeDiff, Nat.reduceEqDiff, Int.cast_ofNat_Int, Std.le_refl, and_self, Int.toNat_natCast, Int.toNat_zero, Nat.le_refl]
      rfl) I ⟨fun _ _ _ => rfl, fun _ _ _ q hq => by rw [if_neg (by omega)]⟩
  generalize hJ : (List.range (S.2.length - 1 - n)).foldl (fun J k => tkf J t t (n + k + 1) (n + k)) I = J at lp
  obtain ⟨j1, j2⟩ := (lp (fun _ _ => True)).2
  have e4 : J t 4 = iI (S.2.length : Int) := (j1 _ _ (by omega)).trans r3
  have e5 : n + (S.2.length - 1 - n) = S.2.length - 1 := by omega
  rw [e5] at j2
  refine ⟨fb_u2 J t 4 (iI ((S.2.length : Int) - 1)), fun Q => ?_, ⟨?_, ?_, ?_, ?_, fun q hq => ?_⟩, fun i k hi => ?_⟩
  · have l1 := (lp Q).1
    rw [e5, Nat.add_zero] at l1
    clear hJ
    simp (disch := first | exact cat_i _ | exact cat_r _ | exact cat_n | omega) only [u42_0, u42_1, u42_2, u42_5, u42_8, u42_9, u42_10, e42, hT_p ht, c26t ht hr0 hv hn, if_pos, if_neg, ↓reduceIte, false_and, and_false, false_or, or_false, ite_not, decide_true, decide_false, Bool.true_eq_false, Bool.false_eq_true, decide_eq_true_eq, decide_eq_false_iff_not, hp_I, hp_sI, hp_N, ev_k_s, ev_k_n, true_and, and_true, true_or, or_true, not_true_eq_false, not_false_eq_true, if_true, if_false, ite_self, Option.some.injEq, exists_eq_left', nb_0, nb_1, nb_z, zI_t, zI_f, zI_e, cat_i, cat_r, cat_n, iI_add, iI_sub, iI_mul, iI_neg, iI_lt, iI_le, iI_eq, iI_idx, iI_inT, iI_ne0, ite_false, ite_true, iN_0, iN_1, Int.reduceAdd, Int.reduceSub, Int.reduceMul, Int.reduceNeg, Int.reduceDiv, Int.reduceMod, Int.reduceEq, Int.reduceLT, Int.reduceLE, Int.reduceToNat, Nat.reduceAdd, Nat.reduceSub, Nat.reduceMul, Nat.reduceLT, Nat.reduceLeDiff, Nat.reduceEqDiff, Int.cast_ofNat_Int, Std.le_refl, and_self, Int.toNat_natCast, Int.toNat_zero, Nat.le_refl]
    refine Eq.trans l1 ?_
    simp (disch := first | exact cat_i _ | exact cat_r _ | exact cat_n | omega) only [u42_11, u42_12, u42_13, u42_16, u42_17, u42_18, u42_36, u42_37, u42_38, u42_41, u42_42, u42_43, u42_46, hT_p ht, e4, if_pos, if_neg, ↓reduceIte, false_and, and_false, false_or, or_false, ite_not, decide_true, decide_false, Bool.true_eq_false, Bool.false_eq_true, decide_eq_true_eq, decide_eq_false_iff_not, hp_I, hp_sI, hp_N, ev_k_s, ev_k_n, true_and, and_true, true_or, or_true, not_true_eq_false, not_false_eq_true, if_true, if_false, ite_self, Option.some.injEq, exists_eq_left', nb_0, nb_1, nb_z, zI_t, zI_f, zI_e, cat_i, cat_r, cat_n, iI_add, iI_sub, iI_mul, iI_neg, iI_lt, iI_le, iI_eq, iI_idx, iI_inT, iI_ne0, ite_false, ite_true, iN_0, iN_1, Int.reduceAdd, Int.reduceSub, Int.reduceMul, Int.reduceNeg, Int.reduceDiv, Int.reduceMod, Int.reduceEq, Int.reduceLT, Int.reduceLE, Int.reduceToNat, Nat.reduceAdd, Nat.reduceSub, Nat.reduceMul, Nat.reduceLT, Nat.reduceLeDiff, Nat.reduceEqDiff, Int.cast_ofNat_Int, Std.le_refl, and_self, Int.toNat_natCast, Int.toNat_zero, Nat.le_refl]
  · rw [u2_ne (by omega), j1 _ _ (by omega)]; exact r0
  · rw [u2_ne (by omega), j1 _ _ (by omega)]; exact r1
  · rw [u2_ne (by omega), j1 _ _ (by omega)]; exact r2
  · rw [u2_eq, len_rem hn]; congr 1; omega
  · rw [len_rem hn] at hq
    have hc := ch_rem (S := S) (c := q) (n := n)
    have k2 := j2 2 (by omega) (by omega) q (by omega)
    have k3 := j2 3 (by omega) (by omega) q (by omega)
    have k4 := j2 4 (by omega) (by omega) q (by omega)
    rw [u2_ne (by omega), u2_ne (by omega), u2_ne (by omega), k2, k3, k4]
    by_cases q2 : q < n
    · rw [if_pos q2] at hc
      rw [hc, if_neg (by omega), if_neg (by omega), if_neg (by omega)]
      exact r4 q (by omega)
    · rw [if_neg q2] at hc
      rw [hc, if_pos (by omega), if_pos (by omega), if_pos (by omega)]
      exact r4 (q + 1) (by omega)
  · rw [u2_ne (by omega), j1 _ _ (by omega)]
theorem c44 (ht : isp t) (hr : RepP I t S) (hv : VS S) (hn : n < S.2.length) (vo : Option (Nat × Nat × Nat)) : ∃ I', (∀ Q : Option Value → fb_H → Prop, ev_c 44 [.ref t, .int (iI (n : Int)), .int (iI (pkO vo))] (hp L σ I) Q = Q none (hp L σ I')) ∧ RepP I' t (gv S n vo) ∧ Oth I I' t := by
  have hl := hv.2.2.2.1
  have hr0 := hr
  obtain ⟨r0, r1, r2, r3, r4⟩ := hr
  refine ⟨fb_u2 I (t + 4) n (iI (pkO vo)), fun Q => ?_, ⟨?_, ?_, ?_, ?_, fun q hq => ?_⟩, fun i k hi => ?_⟩
  · simp (disch := first | exact cat_i _ | exact cat_r _ | exact cat_n | omega) only [e44, u44_0, u44_1, u44_2, u44_5, u44_8, u44_9, u44_12, u44_13, u44_14, u44_15, hT_p ht, hT_p4 ht, hR_p3 ht, c26t ht hr0 hv hn, if_pos, if_neg, ↓reduceIte, false_and, and_false, false_or, or_false, ite_not, decide_true, decide_false, Bool.true_eq_false, Bool.false_eq_true, decide_eq_true_eq, decide_eq_false_iff_not, hp_I, hp_sI, hp_N, ev_k_s, ev_k_n, true_and, and_true, true_or, or_true, not_true_eq_false, not_false_eq_true, if_true, if_false, ite_self, Option.some.injEq, exists_eq_left', nb_0, nb_1, nb_z, zI_t, zI_f, zI_e, cat_i, cat_r, cat_n, iI_add, iI_sub, iI_mul, iI_neg, iI_lt, iI_le, iI_eq, iI_idx, iI_inT, iI_ne0, ite_false, ite_true, iN_0, iN_1, Int.reduceAdd, Int.reduceSub, Int.reduceMul, Int.reduceNeg, Int.reduceDiv, Int.reduceMod, Int.reduceEq, Int.reduceLT, Int.reduceLE, Int.reduceToNat, Nat.reduceAdd, Nat.reduceSub, Nat.reduceMul, Nat.reduceLT, Nat.reduceLeDiff, Nat.reduceEqDiff, Int.cast_ofNat_Int, Std.le_refl, and_self, Int.toNat_natCast, Int.toNat_zero, Nat.le_refl]
  · rw [u2_ne (by omega)]; exact r0
  · rw [u2_ne (by omega)]; exact r1
  · rw [u2_ne (by omega)]; exact r2
  · rw [u2_ne (by omega), len_gv]; exact r3
  · rw [len_gv] at hq
    obtain ⟨k2, k3, k4⟩ := r4 q hq
    rw [u2_ne (by omega), u2_ne (by omega), k2, k3, ch_gv hn]
    by_cases q1 : q = n
    · subst q; rw [if_pos rfl, u2_eq]; exact ⟨rfl, rfl, rfl⟩
    · rw [if_neg q1, u2_ne (by omega), k4]; exact ⟨rfl, rfl, rfl⟩
  · rw [u2_ne (by omega)]
theorem c28 (ht : isp t) (hr : RepP I t S) (hn : n < 3) (m : Nat) : ∃ I', (∀ Q : Option Value → fb_H → Prop, ev_c 28 [.ref t, .int (iI (n : Int)), .int (iI (m : Int))] (hp L σ I) Q = Q none (hp L σ I')) ∧ RepP I' t (stk S n m) ∧ Oth I I' t := by
  obtain ⟨r0, r1, r2, r3, r4⟩ := hr
  refine ⟨fb_u2 I (t + 1) n (iI (m : Int)), fun Q => ?_, ⟨?_, ?_, ?_, ?_, fun q hq => ?_⟩, fun i k hi => ?_⟩
  · simp (disch := first | exact cat_i _ | exact cat_r _ | exact cat_n | omega) only [e28, u28_0, u28_1, u28_4, u28_7, u28_8, u28_11, u28_12, u28_13, u28_14, hT_p ht, hT_p1 ht, hR_p0 ht, c101, zI_dt, if_pos, if_neg, ↓reduceIte, false_and, and_false, false_or, or_false, ite_not, decide_true, decide_false, Bool.true_eq_false, Bool.false_eq_true, decide_eq_true_eq, decide_eq_false_iff_not, hp_I, hp_sI, hp_N, ev_k_s, ev_k_n, true_and, and_true, true_or, or_true, not_true_eq_false, not_false_eq_true, if_true, if_false, ite_self, Option.some.injEq, exists_eq_left', nb_0, nb_1, nb_z, zI_t, zI_f, zI_e, cat_i, cat_r, cat_n, iI_add, iI_sub, iI_mul, iI_neg, iI_lt, iI_le, iI_eq, iI_idx, iI_inT, iI_ne0, ite_false, ite_true, iN_0, iN_1, Int.reduceAdd, Int.reduceSub, Int.reduceMul, Int.reduceNeg, Int.reduceDiv, Int.reduceMod, Int.reduceEq, Int.reduceLT, Int.reduceLE, Int.reduceToNat, Nat.reduceAdd, Nat.reduceSub, Nat.reduceMul, Nat.reduceLT, Nat.reduceLeDiff, Nat.reduceEqDiff, Int.cast_ofNat_Int, Std.le_refl, and_self, Int.toNat_natCast, Int.toNat_zero, Nat.le_refl]
  · show _ = iI ((if n = 0 then m else S.1.1 : Nat) : Int)
    split
    · subst n; rw [u2_eq]
    · rw [u2_ne (by omega)]; exact r0
  · show _ = iI ((if n = 1 then m else S.1.2.1 : Nat) : Int)
    split
    · subst n; rw [u2_eq]
    · rw [u2_ne (by omega)]; exact r1
  · show _ = iI ((if n = 2 then m else S.1.2.2 : Nat) : Int)
    split
    · subst n; rw [u2_eq]
    · rw [u2_ne (by omega)]; exact r2
  · rw [u2_ne (by omega)]; exact r3
  · rw [u2_ne (by omega), u2_ne (by omega), u2_ne (by omega)]; exact r4 q hq
  · rw [u2_ne (by omega)]
end WS
