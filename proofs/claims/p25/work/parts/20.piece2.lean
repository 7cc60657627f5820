section PD
variable {L t : Nat} {σ : Nat → Nat} {I : Nat → Nat → Int32} {S : Co} {Q : Option Value → fb_H → Prop} {c d : Int} {n : Nat} {h : fb_H}
def dst (a b : Nat × Nat × Nat) : Nat := ((a.1 : Int) - b.1).natAbs + ((a.2.1 : Int) - b.2.1).natAbs + ((a.2.2 : Int) - b.2.2).natAbs
theorem pk0 (v : Nat × Nat × Nat) : (pkv v : Int) = ((pk4 0 v : Nat) : Int) := by
  unfold pk4
  omega
theorem c111 {a b : Nat × Nat × Nat} (ha : VV a) (hb : VV b) : ev_c 111 [.int (iI (pkv a : Int)), .int (iI (pkv b : Int))] h Q = Q (some (.int (iI (dst a b : Int)))) h := by
  obtain ⟨a1, a2, a3⟩ := id ha
  obtain ⟨b1, b2, b3⟩ := id hb
  rw [pk0, pk0]
  simp (disch := first | exact cat_i _ | exact cat_r _ | exact cat_n | omega) only [e111, u111_0, u111_1, u111_2, u111_3, u111_4, u111_5, u111_6, u111_9, u111_10, u111_11, u111_12, u111_15, u111_16, u111_17, u111_20, u111_21, u111_24, u111_25, u111_26, u111_29, u111_32, u111_33, c110_1 (Nat.zero_le 127) ha, c110_2 (Nat.zero_le 127) ha, c110_3 (Nat.zero_le 127) ha, c110_1 (Nat.zero_le 127) hb, c110_2 (Nat.zero_le 127) hb, c110_3 (Nat.zero_le 127) hb, c186, ↓reduceIte, false_and, and_false, false_or, or_false, ite_not, decide_true, decide_false, Bool.true_eq_false, Bool.false_eq_true, decide_eq_true_eq, decide_eq_false_iff_not, hp_I, hp_sI, hp_N, ev_k_s, ev_k_n, true_and, and_true, true_or, or_true, not_true_eq_false, not_false_eq_true, if_true, if_false, ite_self, Option.some.injEq, exists_eq_left', nb_0, nb_1, nb_z, zI_t, zI_f, zI_e, cat_i, cat_r, cat_n, iI_add, iI_sub, iI_mul, iI_neg, iI_lt, iI_le, iI_eq, iI_idx, iI_inT, iI_ne0, ite_false, ite_true, iN_0, iN_1, Int.reduceAdd, Int.reduceSub, Int.reduceMul, Int.reduceNeg, Int.reduceDiv, Int.reduceMod, Int.reduceEq, Int.reduceLT, Int.reduceLE, Int.reduceToNat, Nat.reduceAdd, Nat.reduceSub, Nat.reduceMul, Nat.reduceLT, Nat.reduceLeDiff, Nat.reduceEqDiff, Int.cast_ofNat_Int, Std.le_refl, and_self, Int.toNat_natCast, Int.toNat_zero, Nat.le_refl]
  unfold dst
  exact Qi (by omega)
theorem iI_bv {b : Nat} {v : Nat × Nat × Nat} (hb : b ≤ 127) (hv : VV v) : j_shl (iI (b : Int)) (iI 21) ||| iI ((pkv v : Nat) : Int) = iI ((pk4 b v : Nat) : Int) := by
  have e1 : j_shl (iI (b : Int)) (iI 21) = iI ((2 ^ 21 * b : Nat) : Int) := by
    rw [show (21 : Int) = ((21 : Nat) : Int) from rfl, iI_shl (by omega) (by omega) (by omega)]
    congr 1
    omega
  have h1 := pkv_lt hv
  rw [e1, iI_or, ← Nat.two_pow_add_eq_or_of_lt (show pkv v < 2 ^ 21 by omega)]
  congr 2
  unfold pk4
  omega
theorem c33 (ht : isp t) (hr : RepP I t S) (hv : VS S) (hn : n < S.2.length) {v : Nat × Nat × Nat} (hw : VV v) : ev_c 33 [.ref t, .int (iI n), .int (iI ((pkv v : Nat) : Int))] (hp L σ I) Q = Q (some (.int (iI ((pk4 (ch S n).1 v : Nat) : Int)))) (hp L σ I) := by
  have hl := hv.2.2.2.1
  have hb := hv.2.2.2.2 n hn
  have hb1 := hb.1
  have hb2 := hb.2.1
  simp (disch := first | exact cat_i _ | exact cat_r _ | exact cat_n | omega) only [e33, u33_0, u33_1, u33_2, u33_5, u33_8, u33_9, u33_12, u33_13, u33_14, u33_17, u33_18, u33_19, u33_20, u33_22, u33_23, u33_24, u33_25, hT_p ht, hT_p2 ht, hR_p1 ht, c26t ht hr hv hn, (hr.2.2.2.2 n hn).1, iI_bv (show (ch S n).1 ≤ 127 by omega) hw, ↓reduceIte, false_and, and_false, false_or, or_false, ite_not, decide_true, decide_false, Bool.true_eq_false, Bool.false_eq_true, decide_eq_true_eq, decide_eq_false_iff_not, hp_I, hp_sI, hp_N, ev_k_s, ev_k_n, true_and, and_true, true_or, or_true, not_true_eq_false, not_false_eq_true, if_true, if_false, ite_self, Option.some.injEq, exists_eq_left', nb_0, nb_1, nb_z, zI_t, zI_f, zI_e, cat_i, cat_r, cat_n, iI_add, iI_sub, iI_mul, iI_neg, iI_lt, iI_le, iI_eq, iI_idx, iI_inT, iI_ne0, ite_false, ite_true, iN_0, iN_1, Int.reduceAdd, Int.reduceSub, Int.reduceMul, Int.reduceNeg, Int.reduceDiv, Int.reduceMod, Int.reduceEq, Int.reduceLT, Int.reduceLE, Int.reduceToNat, Nat.reduceAdd, Nat.reduceSub, Nat.reduceMul, Nat.reduceLT, Nat.reduceLeDiff, Nat.reduceEqDiff, Int.cast_ofNat_Int, Std.le_refl, and_self, Int.toNat_natCast, Int.toNat_zero, Nat.le_refl]
theorem c34 (ht : isp t) (hr : RepP I t S) (hv : VS S) (hn : n < S.2.length) {v : Nat × Nat × Nat} (hw : (ch S n).2.2 = some v) : ev_c 34 [.ref t, .int (iI n)] (hp L σ I) Q = Q (some (.int (iI ((pk4 (ch S n).1 v : Nat) : Int)))) (hp L σ I) := by
  have hl := hv.2.2.2.1
  have h1 := (hv.2.2.2.2 n hn).2.2.2 v hw
  simp (disch := first | exact cat_i _ | exact cat_r _ | exact cat_n | omega) only [e34, u34_0, u34_1, u34_2, u34_3, u34_4, u34_7, u34_10, hT_p ht, c31 ht hr hv hn, hw, pkO, c33 ht hr hv hn h1, ↓reduceIte, false_and, and_false, false_or, or_false, ite_not, decide_true, decide_false, Bool.true_eq_false, Bool.false_eq_true, decide_eq_true_eq, decide_eq_false_iff_not, hp_I, hp_sI, hp_N, ev_k_s, ev_k_n, true_and, and_true, true_or, or_true, not_true_eq_false, not_false_eq_true, if_true, if_false, ite_self, Option.some.injEq, exists_eq_left', nb_0, nb_1, nb_z, zI_t, zI_f, zI_e, cat_i, cat_r, cat_n, iI_add, iI_sub, iI_mul, iI_neg, iI_lt, iI_le, iI_eq, iI_idx, iI_inT, iI_ne0, ite_false, ite_true, iN_0, iN_1, Int.reduceAdd, Int.reduceSub, Int.reduceMul, Int.reduceNeg, Int.reduceDiv, Int.reduceMod, Int.reduceEq, Int.reduceLT, Int.reduceLE, Int.reduceToNat, Nat.reduceAdd, Nat.reduceSub, Nat.reduceMul, Nat.reduceLT, Nat.reduceLeDiff, Nat.reduceEqDiff, Int.cast_ofNat_Int, Std.le_refl, and_self, Int.toNat_natCast, Int.toNat_zero, Nat.le_refl]
def onS (S : Co) (key : Int) : Bool := (List.range S.2.length).all fun k => decide (stepD ((((ch S k).1 : Int) - key) % 12) ≠ -6)
theorem c38 (ht : isp t) (hr : RepP I t S) (hv : VS S) (hs : StI I) (h1 : 0 ≤ c) (h2 : c < 12) : ev_c 38 [.ref t, .int (iI c)] (hp L σ I) Q = Q (some (.int (zI (onS S c)))) (hp L σ I) := by
  have hl := hv.2.2.2.1
  have hn := hr.2.2.2.1
  have lp := lk0 (fun (k : Nat) => ev_w 38 2 [.ref t, .int (iI c), .int (iI (k : Int))] [] (hp L σ I) Q) (Q (some (.int (iI 0))) (hp L σ I)) (fun k => decide (stepD ((((ch S k).1 : Int) - c) % 12) ≠ -6)) S.2.length (fun k hk => by
    have hb := hv.2.2.2.2 k hk
    have hb1 := hb.1
    have hb2 := hb.2.1
    have hi := stepD_in ((((ch S k).1 : Int) - c) % 12)
    show ev_w 38 2 [.ref t, .int (iI c), .int (iI (k : Int))] [] (hp L σ I) Q = _
    rw [u38_2]
    simp (disch := first | exact cat_i _ | exact cat_r _ | exact cat_n | omega) only [u38_3, u38_4, u38_7, u38_10, u38_11, u38_12, u38_15, u38_16, u38_17, u38_20, u38_22, u38_25, u38_26, u38_27, u38_30, u38_33, u38_34, hT_p ht, hT_p2 ht, hR_p1 ht, hn, (hr.2.2.2.2 k hk).1, c108 hs, ne_eq, if_pos, if_neg, ↓reduceIte, false_and, and_false, false_or, or_false, ite_not, decide_true, decide_false, Bool.true_eq_false, Bool.false_eq_true, decide_eq_true_eq, decide_eq_false_iff_not, hp_I, hp_sI, hp_N, ev_k_s, ev_k_n, true_and, and_true, true_or, or_true, not_true_eq_false, not_false_eq_true, if_true, if_false, ite_self, Option.some.injEq, exists_eq_left', nb_0, nb_1, nb_z, zI_t, zI_f, zI_e, cat_i, cat_r, cat_n, iI_add, iI_sub, iI_mul, iI_neg, iI_lt, iI_le, iI_eq, iI_idx, iI_inT, iI_ne0, ite_false, ite_true, iN_0, iN_1, Int.reduceAdd, Int.reduceSub, Int.reduceMul, Int.reduceNeg, Int.reduceDiv, Int.reduceMod, Int.reduceEq, Int.reduceLT, Int.reduceLE, Int.reduceToNat, Nat.reduceAdd, Nat.reduceSub, Nat.reduceMul, Nat.reduceLT, Nat.reduceLeDiff, Nat.reduceEqDiff, Int.cast_ofNat_Int, Std.le_refl, and_self, Int.toNat_natCast, Int.toNat_zero, Nat.le_refl]
    rfl)
  simp (disch := first | exact cat_i _ | exact cat_r _ | exact cat_n | omega) only [u38_0, u38_1, e38, ↓reduceIte, false_and, and_false, false_or, or_false, ite_not, decide_true, decide_false, Bool.true_eq_false, Bool.false_eq_true, decide_eq_true_eq, decide_eq_false_iff_not, hp_I, hp_sI, hp_N, ev_k_s, ev_k_n, true_and, and_true, true_or, or_true, not_true_eq_false, not_false_eq_true, if_true, if_false, ite_self, Option.some.injEq, exists_eq_left', nb_0, nb_1, nb_z, zI_t, zI_f, zI_e, cat_i, cat_r, cat_n, iI_add, iI_sub, iI_mul, iI_neg, iI_lt, iI_le, iI_eq, iI_idx, iI_inT, iI_ne0, ite_false, ite_true, iN_0, iN_1, Int.reduceAdd, Int.reduceSub, Int.reduceMul, Int.reduceNeg, Int.reduceDiv, Int.reduceMod, Int.reduceEq, Int.reduceLT, Int.reduceLE, Int.reduceToNat, Nat.reduceAdd, Nat.reduceSub, Nat.reduceMul, Nat.reduceLT, Nat.reduceLeDiff, Nat.reduceEqDiff, Int.cast_ofNat_Int, Std.le_refl, and_self, Int.toNat_natCast, Int.toNat_zero, Nat.le_refl]
  refine Eq.trans lp ?_
  simp (disch := first | exact cat_i _ | exact cat_r _ | exact cat_n | omega) only [u38_2, u38_3, u38_4, u38_7, u38_10, u38_11, u38_12, u38_15, u38_16, u38_17, u38_20, u38_22, u38_25, u38_26, u38_27, u38_30, u38_33, u38_34, hT_p ht, hn, if_pos, if_neg, ↓reduceIte, false_and, and_false, false_or, or_false, ite_not, decide_true, decide_false, Bool.true_eq_false, Bool.false_eq_true, decide_eq_true_eq, decide_eq_false_iff_not, hp_I, hp_sI, hp_N, ev_k_s, ev_k_n, true_and, and_true, true_or, or_true, not_true_eq_false, not_false_eq_true, if_true, if_false, ite_self, Option.some.injEq, exists_eq_left', nb_0, nb_1, nb_z, zI_t, zI_f, zI_e, cat_i, cat_r, cat_n, iI_add, iI_sub, iI_mul, iI_neg, iI_lt, iI_le, iI_eq, iI_idx, iI_inT, iI_ne0, ite_false, ite_true, iN_0, iN_1, Int.reduceAdd, Int.reduceSub, Int.reduceMul, Int.reduceNeg, Int.reduceDiv, Int.reduceMod, Int.reduceEq, Int.reduceLT, Int.reduceLE, Int.reduceToNat, Nat.reduceAdd, Nat.reduceSub, Nat.reduceMul, Nat.reduceLT, Nat.reduceLeDiff, Nat.reduceEqDiff, Int.cast_ofNat_Int, Std.le_refl, and_self, Int.toNat_natCast, Int.toNat_zero, Nat.le_refl]
  unfold onS
  split
  · rename_i e; rw [e]; rfl
  · rename_i e; rw [Bool.not_eq_true] at e; rw [e]; rfl
def vst (S : Co) (a c : Nat) : Nat := if (ch S c).2.2.isSome then a ||| 2 ^ c else a
def vcs (S : Co) : Nat := (List.range S.2.length).foldl (vst S) 0
theorem c39 (ht : isp t) (hr : RepP I t S) (hv : VS S) : ev_c 39 [.ref t] (hp L σ I) Q = Q (some (.int (iI ((vcs S : Nat) : Int)))) (hp L σ I) := by
  have hl := hv.2.2.2.1
  have hn := hr.2.2.2.1
  have lp := (lf0 (fun (a k : Nat) => ev_w 39 4 [.ref t, .int (iI (a : Int)), .int (iI (k : Int))] [] (hp L σ I) Q) (vst S) (fun _ _ => True) S.2.length (fun a k hk _ => ⟨trivial, by
    show ev_w 39 4 [.ref t, .int (iI (a : Int)), .int (iI (k : Int))] [] (hp L σ I) Q = _
    rw [u39_4]
    simp (disch := first | exact cat_i _ | exact cat_r _ | exact cat_n | omega) only [u39_5, u39_6, u39_9, u39_12, u39_13, u39_14, u39_17, u39_20, u39_21, u39_22, u39_23, u39_24, u39_25, u39_26, u39_29, hT_p ht, hn, c32 ht hr hv hk, iI_shl1, iI_or, if_pos, if_neg, ↓reduceIte, false_and, and_false, false_or, or_false, ite_not, decide_true, decide_false, Bool.true_eq_false, Bool.false_eq_true, decide_eq_true_eq, decide_eq_false_iff_not, hp_I, hp_sI, hp_N, ev_k_s, ev_k_n, true_and, and_true, true_or, or_true, not_true_eq_false, not_false_eq_true, if_true, if_false, ite_self, Option.some.injEq, exists_eq_left', nb_0, nb_1, nb_z, zI_t, zI_f, zI_e, cat_i, cat_r, cat_n, iI_add, iI_sub, iI_mul, iI_neg, iI_lt, iI_le, iI_eq, iI_idx, iI_inT, iI_ne0, ite_false, ite_true, iN_0, iN_1, Int.reduceAdd, Int.reduceSub, Int.reduceMul, Int.reduceNeg, Int.reduceDiv, Int.reduceMod, Int.reduceEq, Int.reduceLT, Int.reduceLE, Int.reduceToNat, Nat.reduceAdd, Nat.reduceSub, Nat.reduceMul, Nat.reduceLT, Nat.reduceLeDiff, Nat.reduceEqDiff, Int.cast_ofNat_Int, Std.le_refl, and_self, Int.toNat_natCast, Int.toNat_zero, Nat.le_refl]
    unfold vst
    cases (ch S k).2.2.isSome <;> rfl⟩) 0 trivial).1
  simp (disch := first | exact cat_i _ | exact cat_r _ | exact cat_n | omega) only [u39_0, u39_1, u39_2, u39_3, e39, ↓reduceIte, false_and, and_false, false_or, or_false, ite_not, decide_true, decide_false, Bool.true_eq_false, Bool.false_eq_true, decide_eq_true_eq, decide_eq_false_iff_not, hp_I, hp_sI, hp_N, ev_k_s, ev_k_n, true_and, and_true, true_or, or_true, not_true_eq_false, not_false_eq_true, if_true, if_false, ite_self, Option.some.injEq, exists_eq_left', nb_0, nb_1, nb_z, zI_t, zI_f, zI_e, cat_i, cat_r, cat_n, iI_add, iI_sub, iI_mul, iI_neg, iI_lt, iI_le, iI_eq, iI_idx, iI_inT, iI_ne0, ite_false, ite_true, iN_0, iN_1, Int.reduceAdd, Int.reduceSub, Int.reduceMul, Int.reduceNeg, Int.reduceDiv, Int.reduceMod, Int.reduceEq, Int.reduceLT, Int.reduceLE, Int.reduceToNat, Nat.reduceAdd, Nat.reduceSub, Nat.reduceMul, Nat.reduceLT, Nat.reduceLeDiff, Nat.reduceEqDiff, Int.cast_ofNat_Int, Std.le_refl, and_self, Int.toNat_natCast, Int.toNat_zero, Nat.le_refl]
  refine Eq.trans lp ?_
  simp (disch := first | exact cat_i _ | exact cat_r _ | exact cat_n | omega) only [u39_4, u39_5, u39_6, u39_9, u39_32, u39_33, hT_p ht, hn, if_pos, if_neg, ↓reduceIte, false_and, and_false, false_or, or_false, ite_not, decide_true, decide_false, Bool.true_eq_false, Bool.false_eq_true, decide_eq_true_eq, decide_eq_false_iff_not, hp_I, hp_sI, hp_N, ev_k_s, ev_k_n, true_and, and_true, true_or, or_true, not_true_eq_false, not_false_eq_true, if_true, if_false, ite_self, Option.some.injEq, exists_eq_left', nb_0, nb_1, nb_z, zI_t, zI_f, zI_e, cat_i, cat_r, cat_n, iI_add, iI_sub, iI_mul, iI_neg, iI_lt, iI_le, iI_eq, iI_idx, iI_inT, iI_ne0, ite_false, ite_true, iN_0, iN_1, Int.reduceAdd, Int.reduceSub, Int.reduceMul, Int.reduceNeg, Int.reduceDiv, Int.reduceMod, Int.reduceEq, Int.reduceLT, Int.reduceLE, Int.reduceToNat, Nat.reduceAdd, Nat.reduceSub, Nat.reduceMul, Nat.reduceLT, Nat.reduceLeDiff, Nat.reduceEqDiff, Int.cast_ofNat_Int, Std.le_refl, and_self, Int.toNat_natCast, Int.toNat_zero, Nat.le_refl]
  rfl
def hst (S : Co) (a : Int) (c : Nat) : Int := match (ch S c).2.2 with
  | some v => max a v.2.2
  | none => a
def hso (S : Co) : Int := (List.range S.2.length).foldl (hst S) (-6)
theorem c40 (ht : isp t) (hr : RepP I t S) (hv : VS S) : ev_c 40 [.ref t] (hp L σ I) Q = Q (some (.int (iI (hso S)))) (hp L σ I) ∧ -6 ≤ hso S ∧ hso S ≤ 99 := by
  have hl := hv.2.2.2.1
  have hn := hr.2.2.2.1
  obtain ⟨lp, lq⟩ := lf0 (fun (a : Int) (k : Nat) => ev_w 40 5 [.ref t, .int (iI a), .int (iI (k : Int))] [] (hp L σ I) Q) (hst S) (fun a _ => -6 ≤ a ∧ a ≤ 99) S.2.length (fun a k hk ha => by
    obtain ⟨ha1, ha2⟩ := ha
    show _ ∧ ev_w 40 5 [.ref t, .int (iI a), .int (iI (k : Int))] [] (hp L σ I) Q = _
    rw [u40_5]
    cases hx : (ch S k).2.2 with
    | none =>
      simp (disch := first | exact cat_i _ | exact cat_r _ | exact cat_n | omega) only [u40_6, u40_7, u40_10, u40_13, u40_14, u40_15, u40_18, u40_21, u40_22, u40_23, u40_26, u40_27, u40_28, u40_29, u40_32, u40_35, u40_36, u40_39, hT_p ht, hn, c32 ht hr hv hk, hx, Option.isSome_none, if_pos, if_neg, ↓reduceIte, false_and, and_false, false_or, or_false, ite_not, decide_true, decide_false, Bool.true_eq_false, Bool.false_eq_true, decide_eq_true_eq, decide_eq_false_iff_not, hp_I, hp_sI, hp_N, ev_k_s, ev_k_n, true_and, and_true, true_or, or_true, not_true_eq_false, not_false_eq_true, if_true, if_false, ite_self, Option.some.injEq, exists_eq_left', nb_0, nb_1, nb_z, zI_t, zI_f, zI_e, cat_i, cat_r, cat_n, iI_add, iI_sub, iI_mul, iI_neg, iI_lt, iI_le, iI_eq, iI_idx, iI_inT, iI_ne0, ite_false, ite_true, iN_0, iN_1, Int.reduceAdd, Int.reduceSub, Int.reduceMul, Int.reduceNeg, Int.reduceDiv, Int.reduceMod, Int.reduceEq, Int.reduceLT, Int.reduceLE, Int.reduceToNat, Nat.reduceAdd, Nat.reduceSub, Nat.reduceMul, Nat.reduceLT, Nat.reduceLeDiff, Nat.reduceEqDiff, Int.cast_ofNat_Int, Std.le_refl, and_self, Int.toNat_natCast, Int.toNat_zero, Nat.le_refl]
      simp only [hst, hx]
      exact ⟨⟨ha1, ha2⟩, rfl⟩
    | some v =>
      have hw := (hv.2.2.2.2 k hk).2.2.2 v hx
      have hw3 := hw.2.2
      simp (disch := first | exact cat_i _ | exact cat_r _ | exact cat_n | omega) only [u40_6, u40_7, u40_10, u40_13, u40_14, u40_15, u40_18, u40_21, u40_22, u40_23, u40_26, u40_27, u40_28, u40_29, u40_32, u40_35, u40_36, u40_39, hT_p ht, hT_p4 ht, hR_p3 ht, hn, c32 ht hr hv hk, (hr.2.2.2.2 k hk).2.2, hx, pkO, pk0, c110_3 (Nat.zero_le 127) hw, c187, Option.isSome_some, if_pos, if_neg, ↓reduceIte, false_and, and_false, false_or, or_false, ite_not, decide_true, decide_false, Bool.true_eq_false, Bool.false_eq_true, decide_eq_true_eq, decide_eq_false_iff_not, hp_I, hp_sI, hp_N, ev_k_s, ev_k_n, true_and, and_true, true_or, or_true, not_true_eq_false, not_false_eq_true, if_true, if_false, ite_self, Option.some.injEq, exists_eq_left', nb_0, nb_1, nb_z, zI_t, zI_f, zI_e, cat_i, cat_r, cat_n, iI_add, iI_sub, iI_mul, iI_neg, iI_lt, iI_le, iI_eq, iI_idx, iI_inT, iI_ne0, ite_false, ite_true, iN_0, iN_1, Int.reduceAdd, Int.reduceSub, Int.reduceMul, Int.reduceNeg, Int.reduceDiv, Int.reduceMod, Int.reduceEq, Int.reduceLT, Int.reduceLE, Int.reduceToNat, Nat.reduceAdd, Nat.reduceSub, Nat.reduceMul, Nat.reduceLT, Nat.reduceLeDiff, Nat.reduceEqDiff, Int.cast_ofNat_Int, Std.le_refl, and_self, Int.toNat_natCast, Int.toNat_zero, Nat.le_refl]
      simp only [hst, hx]
      exact ⟨by omega, rfl⟩) (-6) (by omega)
  refine ⟨?_, lq⟩
  simp (disch := first | exact cat_i _ | exact cat_r _ | exact cat_n | omega) only [u40_0, u40_2, u40_3, u40_4, e40, ↓reduceIte, false_and, and_false, false_or, or_false, ite_not, decide_true, decide_false, Bool.true_eq_false, Bool.false_eq_true, decide_eq_true_eq, decide_eq_false_iff_not, hp_I, hp_sI, hp_N, ev_k_s, ev_k_n, true_and, and_true, true_or, or_true, not_true_eq_false, not_false_eq_true, if_true, if_false, ite_self, Option.some.injEq, exists_eq_left', nb_0, nb_1, nb_z, zI_t, zI_f, zI_e, cat_i, cat_r, cat_n, iI_add, iI_sub, iI_mul, iI_neg, iI_lt, iI_le, iI_eq, iI_idx, iI_inT, iI_ne0, ite_false, ite_true, iN_0, iN_1, Int.reduceAdd, Int.reduceSub, Int.reduceMul, Int.reduceNeg, Int.reduceDiv, Int.reduceMod, Int.reduceEq, Int.reduceLT, Int.reduceLE, Int.reduceToNat, Nat.reduceAdd, Nat.reduceSub, Nat.reduceMul, Nat.reduceLT, Nat.reduceLeDiff, Nat.reduceEqDiff, Int.cast_ofNat_Int, Std.le_refl, and_self, Int.toNat_natCast, Int.toNat_zero, Nat.le_refl]
  refine Eq.trans lp ?_
  simp (disch := first | exact cat_i _ | exact cat_r _ | exact cat_n | omega) only [u40_5, u40_6, u40_7, u40_10, u40_42, u40_43, hT_p ht, hn, if_pos, if_neg, ↓reduceIte, false_and, and_false, false_or, or_false, ite_not, decide_true, decide_false, Bool.true_eq_false, Bool.false_eq_true, decide_eq_true_eq, decide_eq_false_iff_not, hp_I, hp_sI, hp_N, ev_k_s, ev_k_n, true_and, and_true, true_or, or_true, not_true_eq_false, not_false_eq_true, if_true, if_false, ite_self, Option.some.injEq, exists_eq_left', nb_0, nb_1, nb_z, zI_t, zI_f, zI_e, cat_i, cat_r, cat_n, iI_add, iI_sub, iI_mul, iI_neg, iI_lt, iI_le, iI_eq, iI_idx, iI_inT, iI_ne0, ite_false, ite_true, iN_0, iN_1, Int.reduceAdd, Int.reduceSub, Int.reduceMul, Int.reduceNeg, Int.reduceDiv, Int.reduceMod, Int.reduceEq, Int.reduceLT, Int.reduceLE, Int.reduceToNat, Nat.reduceAdd, Nat.reduceSub, Nat.reduceMul, Nat.reduceLT, Nat.reduceLeDiff, Nat.reduceEqDiff, Int.cast_ofNat_Int, Std.le_refl, and_self, Int.toNat_natCast, Int.toNat_zero, Nat.le_refl]
  rfl
end PD
