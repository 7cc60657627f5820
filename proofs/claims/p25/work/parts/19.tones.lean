/-! steps and tones -/
def stepD (d : Int) : Int := if d = 0 then 0 else if d = 2 then 1 else if d = 4 then 2 else if d = 5 then 3 else if d = 7 then 4 else if d = 9 then 5 else if d = 11 then 6 else -6
def sc (k : Nat) : Int := [0, 2, 4, 5, 7, 9, 11].getD k 0
def figm (f : Nat) : Nat := if f = 5 then 21 else if f = 6 then 37 else if f = 64 then 41 else if f = 7 then 85 else 0
def tnsS (key step : Int) (fig : Nat) : Nat := if step = -6 then 0 else (List.range 7).foldl (fun m up => if (figm fig).testBit up then m ||| 2 ^ ((key + sc ((step.toNat + up) % 7)) % 12).toNat else m) 0
def tns (key bass fig : Nat) : Nat := tnsS key (stepD (((bass : Int) - key) % 12)) fig
theorem stepD_in (d : Int) : stepD d = -6 ∨ stepD d = 0 ∨ stepD d = 1 ∨ stepD d = 2 ∨ stepD d = 3 ∨ stepD d = 4 ∨ stepD d = 5 ∨ stepD d = 6 := by
  unfold stepD
  repeat' split
  all_goals simp
section TO
variable {L t : Nat} {σ : Nat → Nat} {I : Nat → Nat → Int32} {S : Co} {Q : Option Value → fb_H → Prop} {c d : Int} {n : Nat}
theorem StI.sc {I : Nat → Nat → Int32} (h : StI I) : ∀ {k : Nat}, k < 7 → I 1000000 k = iI (sc k)
  | 0, _ => h.s0 | 1, _ => h.s1 | 2, _ => h.s2 | 3, _ => h.s3 | 4, _ => h.s4 | 5, _ => h.s5 | 6, _ => h.s6
  | k + 7, w => absurd w (by omega)
theorem sc_in (k : Nat) : 0 ≤ sc k ∧ sc k < 12 := match k with
  | 0 | 1 | 2 | 3 | 4 | 5 | 6 => by decide
  | k + 7 => by show 0 ≤ (0 : Int) ∧ (0 : Int) < 12; decide
theorem c108i (hs : StI I) {x : Int} (h1 : 0 ≤ x) (h2 : x < 12) {k : Nat} (hk : k < 7) {v w : Value} (hv : v.category = 1) (hw : w.category = 1) : ev_w 108 9 [v, w, .int (iI x), .int (iI (k : Int))] [] (hp L σ I) Q = if sc k = x then Q (some (.int (iI (k : Int)))) (hp L σ I) else ev_w 108 9 [v, w, .int (iI x), .int (iI ((k : Int) + 1))] [] (hp L σ I) Q := by
  rw [u108_9]
  have h3 := (sc_in k).1
  have h4 := (sc_in k).2
  simp (disch := first | exact cat_i _ | exact cat_r _ | exact cat_n | omega) only [u108_10, u108_13, u108_14, u108_17, u108_20, u108_21, u108_22, u108_23, u108_26, u108_27, u108_28, u108_31, hT_1000000, hs.sc, if_pos, if_neg, ↓reduceIte, false_and, and_false, false_or, or_false, ite_not, decide_true, decide_false, Bool.true_eq_false, Bool.false_eq_true, decide_eq_true_eq, decide_eq_false_iff_not, hp_I, hp_sI, hp_N, ev_k_s, ev_k_n, true_and, and_true, true_or, or_true, not_true_eq_false, not_false_eq_true, if_true, if_false, ite_self, Option.some.injEq, exists_eq_left', nb_0, nb_1, nb_z, zI_t, zI_f, zI_e, cat_i, cat_r, cat_n, iI_add, iI_sub, iI_mul, iI_neg, iI_lt, iI_le, iI_eq, iI_idx, iI_inT, iI_ne0, ite_false, ite_true, iN_0, iN_1, Int.reduceAdd, Int.reduceSub, Int.reduceMul, Int.reduceNeg, Int.reduceDiv, Int.reduceMod, Int.reduceEq, Int.reduceLT, Int.reduceLE, Int.reduceToNat, Nat.reduceAdd, Nat.reduceSub, Nat.reduceMul, Nat.reduceLT, Nat.reduceLeDiff, Nat.reduceEqDiff, Int.cast_ofNat_Int, Std.le_refl, and_self, Int.toNat_natCast, Int.toNat_zero, Nat.le_refl]
theorem c108 (hs : StI I) (h1 : -1000 ≤ c) (h2 : c < 1000) (h3 : -1000 ≤ d) (h4 : d < 1000) : ev_c 108 [.int (iI c), .int (iI d)] (hp L σ I) Q = Q (some (.int (iI (stepD ((d - c) % 12))))) (hp L σ I) := by
  have l := fun (k : Nat) (hk : k < 7) => c108i (L := L) (σ := σ) (Q := Q) hs (x := (d - c) % 12) (by omega) (by omega) hk (cat_i (iI c)) (cat_i (iI d))
  have l0 := l 0 (by omega)
  have l1 := l 1 (by omega)
  have l2 := l 2 (by omega)
  have l3 := l 3 (by omega)
  have l4 := l 4 (by omega)
  have l5 := l 5 (by omega)
  have l6 := l 6 (by omega)
  simp only [Int.cast_ofNat_Int, Int.reduceAdd] at l0 l1 l2 l3 l4 l5 l6
  have l7 : ev_w 108 9 [.int (iI c), .int (iI d), .int (iI ((d - c) % 12)), .int (iI 7)] [] (hp L σ I) Q = Q (some (.int (iI (-6)))) (hp L σ I) := by
    simp (disch := first | exact cat_i _ | exact cat_r _ | exact cat_n | omega) only [u108_9, u108_10, u108_13, u108_14, u108_34, u108_36, hT_1000000, ↓reduceIte, false_and, and_false, false_or, or_false, ite_not, decide_true, decide_false, Bool.true_eq_false, Bool.false_eq_true, decide_eq_true_eq, decide_eq_false_iff_not, hp_I, hp_sI, hp_N, ev_k_s, ev_k_n, true_and, and_true, true_or, or_true, not_true_eq_false, not_false_eq_true, if_true, if_false, ite_self, Option.some.injEq, exists_eq_left', nb_0, nb_1, nb_z, zI_t, zI_f, zI_e, cat_i, cat_r, cat_n, iI_add, iI_sub, iI_mul, iI_neg, iI_lt, iI_le, iI_eq, iI_idx, iI_inT, iI_ne0, ite_false, ite_true, iN_0, iN_1, Int.reduceAdd, Int.reduceSub, Int.reduceMul, Int.reduceNeg, Int.reduceDiv, Int.reduceMod, Int.reduceEq, Int.reduceLT, Int.reduceLE, Int.reduceToNat, Nat.reduceAdd, Nat.reduceSub, Nat.reduceMul, Nat.reduceLT, Nat.reduceLeDiff, Nat.reduceEqDiff, Int.cast_ofNat_Int, Std.le_refl, and_self, Int.toNat_natCast, Int.toNat_zero, Nat.le_refl]
  simp (disch := first | exact cat_i _ | exact cat_r _ | exact cat_n | omega) only [e108, u108_0, u108_1, u108_2, u108_3, u108_6, u108_7, u108_8, c105, l0, l1, l2, l3, l4, l5, l6, l7, ↓reduceIte, false_and, and_false, false_or, or_false, ite_not, decide_true, decide_false, Bool.true_eq_false, Bool.false_eq_true, decide_eq_true_eq, decide_eq_false_iff_not, hp_I, hp_sI, hp_N, ev_k_s, ev_k_n, true_and, and_true, true_or, or_true, not_true_eq_false, not_false_eq_true, if_true, if_false, ite_self, Option.some.injEq, exists_eq_left', nb_0, nb_1, nb_z, zI_t, zI_f, zI_e, cat_i, cat_r, cat_n, iI_add, iI_sub, iI_mul, iI_neg, iI_lt, iI_le, iI_eq, iI_idx, iI_inT, iI_ne0, ite_false, ite_true, iN_0, iN_1, Int.reduceAdd, Int.reduceSub, Int.reduceMul, Int.reduceNeg, Int.reduceDiv, Int.reduceMod, Int.reduceEq, Int.reduceLT, Int.reduceLE, Int.reduceToNat, Nat.reduceAdd, Nat.reduceSub, Nat.reduceMul, Nat.reduceLT, Nat.reduceLeDiff, Nat.reduceEqDiff, Int.cast_ofNat_Int, Std.le_refl, and_self, Int.toNat_natCast, Int.toNat_zero, Nat.le_refl]
  simp only [show sc 0 = 0 from rfl, show sc 1 = 2 from rfl, show sc 2 = 4 from rfl, show sc 3 = 5 from rfl, show sc 4 = 7 from rfl, show sc 5 = 9 from rfl, show sc 6 = 11 from rfl]
  unfold stepD
  repeat' split
  all_goals first | exact Qi (by omega) | (exfalso; omega)
theorem c27_0 (ht : isp t) (hr : RepP I t S) : ev_c 27 [.ref t, .int (iI 0)] (hp L σ I) Q = Q (some (.int (iI S.1.1))) (hp L σ I) := by
  simp (disch := first | exact cat_i _ | exact cat_r _ | exact cat_n | omega) only [e27, u27_0, u27_1, u27_4, u27_7, u27_8, u27_11, u27_12, u27_13, u27_16, u27_17, hT_p ht, hT_p1 ht, hR_p0 ht, c101, zI_dt, hr.1, ↓reduceIte, false_and, and_false, false_or, or_false, ite_not, decide_true, decide_false, Bool.true_eq_false, Bool.false_eq_true, decide_eq_true_eq, decide_eq_false_iff_not, hp_I, hp_sI, hp_N, ev_k_s, ev_k_n, true_and, and_true, true_or, or_true, not_true_eq_false, not_false_eq_true, if_true, if_false, ite_self, Option.some.injEq, exists_eq_left', nb_0, nb_1, nb_z, zI_t, zI_f, zI_e, cat_i, cat_r, cat_n, iI_add, iI_sub, iI_mul, iI_neg, iI_lt, iI_le, iI_eq, iI_idx, iI_inT, iI_ne0, ite_false, ite_true, iN_0, iN_1, Int.reduceAdd, Int.reduceSub, Int.reduceMul, Int.reduceNeg, Int.reduceDiv, Int.reduceMod, Int.reduceEq, Int.reduceLT, Int.reduceLE, Int.reduceToNat, Nat.reduceAdd, Nat.reduceSub, Nat.reduceMul, Nat.reduceLT, Nat.reduceLeDiff, Nat.reduceEqDiff, Int.cast_ofNat_Int, Std.le_refl, and_self, Int.toNat_natCast, Int.toNat_zero, Nat.le_refl]
theorem c27_1 (ht : isp t) (hr : RepP I t S) : ev_c 27 [.ref t, .int (iI 1)] (hp L σ I) Q = Q (some (.int (iI S.1.2.1))) (hp L σ I) := by
  simp (disch := first | exact cat_i _ | exact cat_r _ | exact cat_n | omega) only [e27, u27_0, u27_1, u27_4, u27_7, u27_8, u27_11, u27_12, u27_13, u27_16, u27_17, hT_p ht, hT_p1 ht, hR_p0 ht, c101, zI_dt, hr.2.1, ↓reduceIte, false_and, and_false, false_or, or_false, ite_not, decide_true, decide_false, Bool.true_eq_false, Bool.false_eq_true, decide_eq_true_eq, decide_eq_false_iff_not, hp_I, hp_sI, hp_N, ev_k_s, ev_k_n, true_and, and_true, true_or, or_true, not_true_eq_false, not_false_eq_true, if_true, if_false, ite_self, Option.some.injEq, exists_eq_left', nb_0, nb_1, nb_z, zI_t, zI_f, zI_e, cat_i, cat_r, cat_n, iI_add, iI_sub, iI_mul, iI_neg, iI_lt, iI_le, iI_eq, iI_idx, iI_inT, iI_ne0, ite_false, ite_true, iN_0, iN_1, Int.reduceAdd, Int.reduceSub, Int.reduceMul, Int.reduceNeg, Int.reduceDiv, Int.reduceMod, Int.reduceEq, Int.reduceLT, Int.reduceLE, Int.reduceToNat, Nat.reduceAdd, Nat.reduceSub, Nat.reduceMul, Nat.reduceLT, Nat.reduceLeDiff, Nat.reduceEqDiff, Int.cast_ofNat_Int, Std.le_refl, and_self, Int.toNat_natCast, Int.toNat_zero, Nat.le_refl]
theorem c27_2 (ht : isp t) (hr : RepP I t S) : ev_c 27 [.ref t, .int (iI 2)] (hp L σ I) Q = Q (some (.int (iI S.1.2.2))) (hp L σ I) := by
  simp (disch := first | exact cat_i _ | exact cat_r _ | exact cat_n | omega) only [e27, u27_0, u27_1, u27_4, u27_7, u27_8, u27_11, u27_12, u27_13, u27_16, u27_17, hT_p ht, hT_p1 ht, hR_p0 ht, c101, zI_dt, hr.2.2.1, ↓reduceIte, false_and, and_false, false_or, or_false, ite_not, decide_true, decide_false, Bool.true_eq_false, Bool.false_eq_true, decide_eq_true_eq, decide_eq_false_iff_not, hp_I, hp_sI, hp_N, ev_k_s, ev_k_n, true_and, and_true, true_or, or_true, not_true_eq_false, not_false_eq_true, if_true, if_false, ite_self, Option.some.injEq, exists_eq_left', nb_0, nb_1, nb_z, zI_t, zI_f, zI_e, cat_i, cat_r, cat_n, iI_add, iI_sub, iI_mul, iI_neg, iI_lt, iI_le, iI_eq, iI_idx, iI_inT, iI_ne0, ite_false, ite_true, iN_0, iN_1, Int.reduceAdd, Int.reduceSub, Int.reduceMul, Int.reduceNeg, Int.reduceDiv, Int.reduceMod, Int.reduceEq, Int.reduceLT, Int.reduceLE, Int.reduceToNat, Nat.reduceAdd, Nat.reduceSub, Nat.reduceMul, Nat.reduceLT, Nat.reduceLeDiff, Nat.reduceEqDiff, Int.cast_ofNat_Int, Std.le_refl, and_self, Int.toNat_natCast, Int.toNat_zero, Nat.le_refl]
theorem c35 (ht : isp t) (hr : RepP I t S) (hv : VS S) (hs : StI I) : ev_c 35 [.ref t] (hp L σ I) Q = Q (some (.int (iI (((S.1.1 : Int) + 11) % 12)))) (hp L σ I) := by
  have hk := hv.1
  simp (disch := first | exact cat_i _ | exact cat_r _ | exact cat_n | omega) only [e35, u35_0, u35_1, u35_4, u35_5, u35_6, u35_9, u35_11, u35_12, u35_13, u35_16, hT_p ht, hT_p1 ht, hR_p0 ht, hT_1000000, hs.s6, c105, hr.1, ↓reduceIte, false_and, and_false, false_or, or_false, ite_not, decide_true, decide_false, Bool.true_eq_false, Bool.false_eq_true, decide_eq_true_eq, decide_eq_false_iff_not, hp_I, hp_sI, hp_N, ev_k_s, ev_k_n, true_and, and_true, true_or, or_true, not_true_eq_false, not_false_eq_true, if_true, if_false, ite_self, Option.some.injEq, exists_eq_left', nb_0, nb_1, nb_z, zI_t, zI_f, zI_e, cat_i, cat_r, cat_n, iI_add, iI_sub, iI_mul, iI_neg, iI_lt, iI_le, iI_eq, iI_idx, iI_inT, iI_ne0, ite_false, ite_true, iN_0, iN_1, Int.reduceAdd, Int.reduceSub, Int.reduceMul, Int.reduceNeg, Int.reduceDiv, Int.reduceMod, Int.reduceEq, Int.reduceLT, Int.reduceLE, Int.reduceToNat, Nat.reduceAdd, Nat.reduceSub, Nat.reduceMul, Nat.reduceLT, Nat.reduceLeDiff, Nat.reduceEqDiff, Int.cast_ofNat_Int, Std.le_refl, and_self, Int.toNat_natCast, Int.toNat_zero, Nat.le_refl]
theorem c36 (ht : isp t) (hr : RepP I t S) (hv : VS S) (hs : StI I) (h : n < S.2.length) : ev_c 36 [.ref t, .int (iI n)] (hp L σ I) Q = Q (some (.int (iI (stepD ((((ch S n).1 : Int) - S.1.1) % 12))))) (hp L σ I) := by
  have hk := hv.1
  have hb := hv.2.2.2.2 n h
  have hb1 := hb.1
  have hb2 := hb.2.1
  simp (disch := first | exact cat_i _ | exact cat_r _ | exact cat_n | omega) only [e36, u36_0, u36_1, u36_4, u36_5, u36_6, u36_7, u36_8, u36_11, u36_14, hT_p ht, hT_p1 ht, hR_p0 ht, c29 ht hr hv h, c108 hs, hr.1, ↓reduceIte, false_and, and_false, false_or, or_false, ite_not, decide_true, decide_false, Bool.true_eq_false, Bool.false_eq_true, decide_eq_true_eq, decide_eq_false_iff_not, hp_I, hp_sI, hp_N, ev_k_s, ev_k_n, true_and, and_true, true_or, or_true, not_true_eq_false, not_false_eq_true, if_true, if_false, ite_self, Option.some.injEq, exists_eq_left', nb_0, nb_1, nb_z, zI_t, zI_f, zI_e, cat_i, cat_r, cat_n, iI_add, iI_sub, iI_mul, iI_neg, iI_lt, iI_le, iI_eq, iI_idx, iI_inT, iI_ne0, ite_false, ite_true, iN_0, iN_1, Int.reduceAdd, Int.reduceSub, Int.reduceMul, Int.reduceNeg, Int.reduceDiv, Int.reduceMod, Int.reduceEq, Int.reduceLT, Int.reduceLE, Int.reduceToNat, Nat.reduceAdd, Nat.reduceSub, Nat.reduceMul, Nat.reduceLT, Nat.reduceLeDiff, Nat.reduceEqDiff, Int.cast_ofNat_Int, Std.le_refl, and_self, Int.toNat_natCast, Int.toNat_zero, Nat.le_refl]
theorem iI_or0 (b : Nat) : iI 0 ||| iI (b : Int) = iI ((0 ||| b : Nat) : Int) := iI_or 0 b
/-! loops that gather -/
theorem lf {α : Type} (W : α → Nat → Prop) (f : α → Nat → α) (P : α → Nat → Prop) (N : Nat) (st : ∀ a k, k < N → P a k → P (f a k) (k + 1) ∧ W a k = W (f a k) (k + 1)) : ∀ j k a, k + j = N → P a k → W a k = W ((List.range' k j).foldl f a) N ∧ P ((List.range' k j).foldl f a) N := by
  intro j
  induction j with
  | zero =>
    intro k a e p
    cases (show k = N by omega)
    exact ⟨rfl, p⟩
  | succ j ih =>
    intro k a e p
    obtain ⟨p2, e2⟩ := st a k (by omega) p
    rw [e2, List.range'_succ, List.foldl_cons]
    exact ih (k + 1) (f a k) (by omega) p2
theorem lf0 {α : Type} (W : α → Nat → Prop) (f : α → Nat → α) (P : α → Nat → Prop) (N : Nat) (st : ∀ a k, k < N → P a k → P (f a k) (k + 1) ∧ W a k = W (f a k) (k + 1)) (a : α) (p : P a 0) : W a 0 = W ((List.range N).foldl f a) N ∧ P ((List.range N).foldl f a) N := by
  rw [List.range_eq_range']
  exact lf W f P N st N 0 a (by omega) p
/-! loops that look -/
theorem lk (W : Nat → Prop) (X : Prop) (c : Nat → Bool) (N : Nat) (st : ∀ k, k < N → W k = if c k = true then W (k + 1) else X) : ∀ j k, k + j = N → W k = if (List.range' k j).all c = true then W N else X := by
  intro j
  induction j with
  | zero =>
    intro k e
    cases (show k = N by omega)
    rfl
  | succ j ih =>
    intro k e
    rw [st k (by omega), ih (k + 1) (by omega), List.range'_succ, List.all_cons]
    cases c k <;> rfl
theorem lk0 (W : Nat → Prop) (X : Prop) (c : Nat → Bool) (N : Nat) (st : ∀ k, k < N → W k = if c k = true then W (k + 1) else X) : W 0 = if (List.range N).all c = true then W N else X := by
  rw [List.range_eq_range']
  exact lk W X c N st N 0 (by omega)
def tstep (key s : Int) (m a up : Nat) : Nat := if m.testBit up then a ||| 2 ^ ((key + sc ((s.toNat + up) % 7)) % 12).toNat else a
theorem c37i (ht : isp t) (hr : RepP I t S) (hv : VS S) (hs : StI I) {m a k : Nat} (hm : m < 128) {s : Int} (hs0 : 0 ≤ s) (hs1 : s < 7) (hk : k < 7) {w : Value} : ev_w 37 38 [.ref t, w, .int (iI s), .int (iI (m : Int)), .int (iI (a : Int)), .int (iI (k : Int))] [] (hp L σ I) Q = ev_w 37 38 [.ref t, w, .int (iI s), .int (iI (m : Int)), .int (iI ((tstep S.1.1 s m a k : Nat) : Int)), .int (iI ((k : Int) + 1))] [] (hp L σ I) Q := by
  have hk := hv.1
  have e : (s + (k : Int)) % 7 = (((s.toNat + k) % 7 : Nat) : Int) := by omega
  have h3 := (sc_in ((s.toNat + k) % 7)).1
  have h4 := (sc_in ((s.toNat + k) % 7)).2
  have h5 : (s.toNat + k) % 7 < 7 := by omega
  rw [u37_38]
  simp (disch := first | exact cat_i _ | exact cat_r _ | exact cat_n | omega) only [u37_40, u37_43, u37_44, u37_47, u37_48, u37_50, u37_53, u37_56, u37_58, u37_59, u37_60, u37_63, u37_64, u37_65, u37_68, u37_69, u37_71, u37_72, u37_75, u37_76, u37_77, u37_78, u37_79, u37_82, u37_83, u37_84, u37_86, u37_89, hT_p ht, hT_p1 ht, hR_p0 ht, hT_1000000, c106, iI_rem, e, hs.sc, c105, hr.1, iI_shl1, iI_or, if_pos, if_neg, ↓reduceIte, false_and, and_false, false_or, or_false, ite_not, decide_true, decide_false, Bool.true_eq_false, Bool.false_eq_true, decide_eq_true_eq, decide_eq_false_iff_not, hp_I, hp_sI, hp_N, ev_k_s, ev_k_n, true_and, and_true, true_or, or_true, not_true_eq_false, not_false_eq_true, if_true, if_false, ite_self, Option.some.injEq, exists_eq_left', nb_0, nb_1, nb_z, zI_t, zI_f, zI_e, cat_i, cat_r, cat_n, iI_add, iI_sub, iI_mul, iI_neg, iI_lt, iI_le, iI_eq, iI_idx, iI_inT, iI_ne0, ite_false, ite_true, iN_0, iN_1, Int.reduceAdd, Int.reduceSub, Int.reduceMul, Int.reduceNeg, Int.reduceDiv, Int.reduceMod, Int.reduceEq, Int.reduceLT, Int.reduceLE, Int.reduceToNat, Nat.reduceAdd, Nat.reduceSub, Nat.reduceMul, Nat.reduceLT, Nat.reduceLeDiff, Nat.reduceEqDiff, Int.cast_ofNat_Int, Std.le_refl, and_self, Int.toNat_natCast, Int.toNat_zero, Nat.le_refl]
  unfold tstep
  cases m.testBit k <;> rfl
theorem c37 (ht : isp t) (hr : RepP I t S) (hv : VS S) (hs : StI I) (h : n < S.2.length) : ev_c 37 [.ref t, .int (iI n)] (hp L σ I) Q = Q (some (.int (iI ((tns S.1.1 (ch S n).1 (ch S n).2.1 : Nat) : Int)))) (hp L σ I) := by
  have hk := hv.1
  have hb := hv.2.2.2.2 n h
  have hb1 := hb.1
  have hb2 := hb.2.1
  have hf : ∃ m : Nat, m < 128 ∧ figm (ch S n).2.1 = m ∧ ∀ Q : Option Value → fb_H → Prop, ev_c 107 [.int (iI (((ch S n).2.1 : Nat) : Int))] (hp L σ I) Q = Q (some (.int (iI (m : Int)))) (hp L σ I) := by
    rcases hb.2.2.1 with e | e | e | e <;> rw [e]
    · exact ⟨21, by omega, rfl, fun _ => c107_5⟩
    · exact ⟨37, by omega, rfl, fun _ => c107_6⟩
    · exact ⟨41, by omega, rfl, fun _ => c107_64⟩
    · exact ⟨85, by omega, rfl, fun _ => c107_7⟩
  obtain ⟨m, hm, hm2, hm3⟩ := hf
  unfold tns tnsS
  rw [hm2]
  have hq := stepD_in ((((ch S n).1 : Int) - S.1.1) % 12)
  generalize hg : stepD ((((ch S n).1 : Int) - S.1.1) % 12) = s at hq ⊢
  by_cases hz : s = -6
  · simp (disch := first | exact cat_i _ | exact cat_r _ | exact cat_n | omega) only [u37_0, u37_1, u37_4, u37_5, u37_6, u37_7, u37_8, u37_11, u37_14, u37_15, u37_16, u37_18, u37_21, u37_22, e37, hT_p ht, hT_p1 ht, hR_p0 ht, c29 ht hr hv h, c108 hs, hr.1, hg, hz, ↓reduceIte, false_and, and_false, false_or, or_false, ite_not, decide_true, decide_false, Bool.true_eq_false, Bool.false_eq_true, decide_eq_true_eq, decide_eq_false_iff_not, hp_I, hp_sI, hp_N, ev_k_s, ev_k_n, true_and, and_true, true_or, or_true, not_true_eq_false, not_false_eq_true, if_true, if_false, ite_self, Option.some.injEq, exists_eq_left', nb_0, nb_1, nb_z, zI_t, zI_f, zI_e, cat_i, cat_r, cat_n, iI_add, iI_sub, iI_mul, iI_neg, iI_lt, iI_le, iI_eq, iI_idx, iI_inT, iI_ne0, ite_false, ite_true, iN_0, iN_1, Int.reduceAdd, Int.reduceSub, Int.reduceMul, Int.reduceNeg, Int.reduceDiv, Int.reduceMod, Int.reduceEq, Int.reduceLT, Int.reduceLE, Int.reduceToNat, Nat.reduceAdd, Nat.reduceSub, Nat.reduceMul, Nat.reduceLT, Nat.reduceLeDiff, Nat.reduceEqDiff, Int.cast_ofNat_Int, Std.le_refl, and_self, Int.toNat_natCast, Int.toNat_zero, Nat.le_refl]
  · have lp := (lf0 (fun (a k : Nat) => ev_w 37 38 [.ref t, .int (iI n), .int (iI s), .int (iI (m : Int)), .int (iI (a : Int)), .int (iI (k : Int))] [] (hp L σ I) Q) (fun a k => tstep S.1.1 s m a k) (fun _ _ => True) 7 (fun a k hk _ => ⟨trivial, c37i ht hr hv hs hm (by omega) (by omega) hk⟩) 0 trivial).1
    rw [if_neg hz]
    simp (disch := first | exact cat_i _ | exact cat_r _ | exact cat_n | omega) only [u37_0, u37_1, u37_4, u37_5, u37_6, u37_7, u37_8, u37_11, u37_14, u37_15, u37_16, u37_18, u37_21, u37_22, u37_23, u37_24, u37_25, u37_28, u37_31, u37_32, u37_33, u37_35, u37_36, e37, hT_p ht, hT_p1 ht, hR_p0 ht, c29 ht hr hv h, c30 ht hr hv h, hm3, c108 hs, hr.1, hg, if_pos, if_neg, ↓reduceIte, false_and, and_false, false_or, or_false, ite_not, decide_true, decide_false, Bool.true_eq_false, Bool.false_eq_true, decide_eq_true_eq, decide_eq_false_iff_not, hp_I, hp_sI, hp_N, ev_k_s, ev_k_n, true_and, and_true, true_or, or_true, not_true_eq_false, not_false_eq_true, if_true, if_false, ite_self, Option.some.injEq, exists_eq_left', nb_0, nb_1, nb_z, zI_t, zI_f, zI_e, cat_i, cat_r, cat_n, iI_add, iI_sub, iI_mul, iI_neg, iI_lt, iI_le, iI_eq, iI_idx, iI_inT, iI_ne0, ite_false, ite_true, iN_0, iN_1, Int.reduceAdd, Int.reduceSub, Int.reduceMul, Int.reduceNeg, Int.reduceDiv, Int.reduceMod, Int.reduceEq, Int.reduceLT, Int.reduceLE, Int.reduceToNat, Nat.reduceAdd, Nat.reduceSub, Nat.reduceMul, Nat.reduceLT, Nat.reduceLeDiff, Nat.reduceEqDiff, Int.cast_ofNat_Int, Std.le_refl, and_self, Int.toNat_natCast, Int.toNat_zero, Nat.le_refl]
    refine Eq.trans lp ?_
    simp (disch := first | exact cat_i _ | exact cat_r _ | exact cat_n | omega) only [u37_38, u37_40, u37_43, u37_44, u37_92, u37_94, hT_1000000, ↓reduceIte, false_and, and_false, false_or, or_false, ite_not, decide_true, decide_false, Bool.true_eq_false, Bool.false_eq_true, decide_eq_true_eq, decide_eq_false_iff_not, hp_I, hp_sI, hp_N, ev_k_s, ev_k_n, true_and, and_true, true_or, or_true, not_true_eq_false, not_false_eq_true, if_true, if_false, ite_self, Option.some.injEq, exists_eq_left', nb_0, nb_1, nb_z, zI_t, zI_f, zI_e, cat_i, cat_r, cat_n, iI_add, iI_sub, iI_mul, iI_neg, iI_lt, iI_le, iI_eq, iI_idx, iI_inT, iI_ne0, ite_false, ite_true, iN_0, iN_1, Int.reduceAdd, Int.reduceSub, Int.reduceMul, Int.reduceNeg, Int.reduceDiv, Int.reduceMod, Int.reduceEq, Int.reduceLT, Int.reduceLE, Int.reduceToNat, Nat.reduceAdd, Nat.reduceSub, Nat.reduceMul, Nat.reduceLT, Nat.reduceLeDiff, Nat.reduceEqDiff, Int.cast_ofNat_Int, Std.le_refl, and_self, Int.toNat_natCast, Int.toNat_zero, Nat.le_refl]
    rfl
end TO
