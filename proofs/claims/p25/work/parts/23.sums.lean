section SU
variable {Q : Option Value → fb_H → Prop} {c d : Int} {n m b b' : Nat} {v w : Nat × Nat × Nat} {L t : Nat} {σ : Nat → Nat} {I : Nat → Nat → Int32} {S : Co} {h : fb_H}
def bcn (m : Nat) : Nat := (List.range 12).foldl (fun a k => a + m / 2 ^ k % 2) 0
def bcE (x : Int32) : Int32 :=
  let a := x - (j_ushr x (iI 1) &&& iI 1431655765)
  let b := (a &&& iI 858993459) + (j_ushr a (iI 2) &&& iI 858993459)
  let c := b + j_ushr b (iI 4) &&& iI 252645135
  let d := c + j_ushr c (iI 8)
  let e := d + j_ushr d (iI 16)
  e &&& iI 63
theorem bcT : ∀ m : Nat, m < 1024 → bcE (iI (m : Int)) = iI ((bcn m : Nat) : Int) := by decide +kernel
theorem c185 (hm : m < 1024) : ev_c 185 [.int (iI (m : Int))] h Q = Q (some (.int (iI ((bcn m : Nat) : Int)))) h := by
  simp (disch := first | exact cat_i _ | exact cat_r _ | exact cat_n | omega) only [e185, u185_0, u185_1, u185_2, u185_3, u185_4, u185_7, u185_8, u185_9, u185_10, u185_11, u185_14, u185_15, u185_16, u185_17, u185_18, u185_21, u185_22, u185_23, u185_24, u185_25, u185_26, u185_27, u185_28, u185_29, u185_32, u185_33, u185_34, u185_35, u185_36, u185_38, u185_39, u185_40, u185_41, u185_42, u185_43, u185_45, u185_46, u185_47, u185_48, u185_49, u185_51, u185_52, ↓reduceIte, false_and, and_false, false_or, or_false, ite_not, decide_true, decide_false, Bool.true_eq_false, Bool.false_eq_true, decide_eq_true_eq, decide_eq_false_iff_not, hp_I, hp_sI, hp_N, ev_k_s, ev_k_n, true_and, and_true, true_or, or_true, not_true_eq_false, not_false_eq_true, if_true, if_false, ite_self, Option.some.injEq, exists_eq_left', nb_0, nb_1, nb_z, zI_t, zI_f, zI_e, cat_i, cat_r, cat_n, iI_add, iI_sub, iI_mul, iI_neg, iI_lt, iI_le, iI_eq, iI_idx, iI_inT, iI_ne0, ite_false, ite_true, iN_0, iN_1, Int.reduceAdd, Int.reduceSub, Int.reduceMul, Int.reduceNeg, Int.reduceDiv, Int.reduceMod, Int.reduceEq, Int.reduceLT, Int.reduceLE, Int.reduceToNat, Nat.reduceAdd, Nat.reduceSub, Nat.reduceMul, Nat.reduceLT, Nat.reduceLeDiff, Nat.reduceEqDiff, Int.cast_ofNat_Int, Std.le_refl, and_self, Int.toNat_natCast, Int.toNat_zero, Nat.le_refl]
  exact congrArg (fun z => Q (some (.int z)) h) (bcT m hm)
theorem own_lt (key span b : Nat) (v : Nat × Nat × Nat) (m : Nat) : own key span b v m < 32 := by
  unfold own
  repeat' split
  all_goals omega
theorem bhd_in (key leap b : Nat) (v : Nat × Nat × Nat) (b' : Nat) (w : Nat × Nat × Nat) (m : Nat) : ∃ k, k < 16 ∧ bhd key leap b v b' w m = 32 * k := by
  unfold bhd
  by_cases q1 : par b v b' w 7 = -6 <;> by_cases q2 : par b v b' w 0 = -6 <;> cases q3 : lps v w leap <;> by_cases q4 : m.testBit key = true ∧ hbk v w (((key : Int) + 11) % 12) = true
  all_goals simp only [q1, q2, q4, and_self, if_true, if_false, Bool.false_eq_true]
  all_goals first | exact ⟨0, by omega⟩ | exact ⟨1, by omega⟩ | exact ⟨2, by omega⟩ | exact ⟨3, by omega⟩ | exact ⟨4, by omega⟩ | exact ⟨5, by omega⟩ | exact ⟨6, by omega⟩ | exact ⟨7, by omega⟩ | exact ⟨8, by omega⟩ | exact ⟨9, by omega⟩ | exact ⟨10, by omega⟩ | exact ⟨11, by omega⟩ | exact ⟨12, by omega⟩ | exact ⟨13, by omega⟩ | exact ⟨14, by omega⟩ | exact ⟨15, by omega⟩
theorem tns_lt (key bass fig : Nat) : tns key bass fig < 4096 := by
  unfold tns tnsS
  split
  · omega
  · refine (lf0 (fun _ _ => True) (fun m up => if (figm fig).testBit up then m ||| 2 ^ (((key : Int) + sc (((stepD (((bass : Int) - key) % 12)).toNat + up) % 7)) % 12).toNat else m) (fun a _ => a < 4096) 7 (fun a k _ ha => ⟨?_, rfl⟩) 0 (by omega)).2
    split
    · refine Nat.or_lt_two_pow (n := 12) ha ?_
      exact Nat.pow_lt_pow_right (by omega) (by omega)
    · exact ha
def pre (S : Co) : Nat → Option (Nat × Nat × Nat)
  | 0 => none
  | n + 1 => (ch S n).2.2
theorem c32p (ht : isp t) (hr : RepP I t S) (hv : VS S) (hn : n ≤ S.2.length) : ev_c 32 [.ref t, .int (iI ((n : Int) - 1))] (hp L σ I) Q = Q (some (.int (zI (pre S n).isSome))) (hp L σ I) := by
  cases n with
  | zero => rw [c32f ht hr hv (by omega) (by omega) (by omega)]; rfl
  | succ n => rw [show ((n + 1 : Nat) : Int) - 1 = (n : Int) by omega, c32 ht hr hv (by omega)]; rfl
theorem pre_i {p : Nat × Nat × Nat} (hv : VS S) (hn : n ≤ S.2.length) (e : pre S n = some p) : ∃ k, n = k + 1 ∧ k < S.2.length ∧ (ch S k).2.2 = some p ∧ VV p ∧ (ch S k).1 ≤ 99 := by
  cases n with
  | zero => cases e
  | succ n =>
    have a := hv.2.2.2.2 n (by omega)
    have a2 := a.2.1
    exact ⟨n, rfl, by omega, e, a.2.2.2 p e, by omega⟩
def tn (S : Co) (n : Nat) : Nat := tns S.1.1 (ch S n).1 (ch S n).2.1
def flw (S : Co) (n : Nat) (v : Nat × Nat × Nat) : Nat := own S.1.1 S.1.2.1 (ch S n).1 v (tn S n) + (match pre S n with
  | some p => bhd S.1.1 S.1.2.2 (ch S (n - 1)).1 p (ch S n).1 v (tn S n)
  | none => 0)
theorem flw_lt (S : Co) (n : Nat) (v : Nat × Nat × Nat) : flw S n v < 512 := by
  unfold flw
  have h1 := own_lt S.1.1 S.1.2.1 (ch S n).1 v (tn S n)
  cases pre S n with
  | none => dsimp only; omega
  | some p =>
    obtain ⟨k, h2, h3⟩ := bhd_in S.1.1 S.1.2.2 (ch S (n - 1)).1 p (ch S n).1 v (tn S n)
    dsimp only
    omega
theorem c55 (ht : isp t) (hr : RepP I t S) (hv : VS S) (hs : StI I) (hn : n < S.2.length) (hw : VV v) : ev_c 55 [.ref t, .int (iI (n : Int)), .int (iI (pkv v : Int))] (hp L σ I) Q = Q (some (.int (iI (flw S n v : Int)))) (hp L σ I) := by
  have hl := hv.2.2.2.1
  have hb := hv.2.2.2.2 n hn
  have hb2 := hb.2.1
  have htn : tns S.1.1 (ch S n).1 (ch S n).2.1 < 4096 := tns_lt _ _ _
  have ho := own_lt S.1.1 S.1.2.1 (ch S n).1 v (tns S.1.1 (ch S n).1 (ch S n).2.1)
  unfold flw tn
  cases hpr : pre S n with
  | none =>
    simp (disch := first | exact cat_i _ | exact cat_r _ | exact cat_n | omega) only [e55, u55_0, u55_1, u55_2, u55_3, u55_6, u55_7, u55_8, u55_9, u55_12, u55_14, u55_15, u55_16, u55_18, u55_21, u55_23, u55_24, u55_25, u55_26, u55_27, u55_30, u55_33, u55_35, u55_36, u55_37, u55_38, u55_39, u55_40, u55_43, u55_44, u55_46, u55_49, u55_50, u55_52, u55_54, hT_p ht, c33 ht hr hv hn hw, c37 ht hr hv hs hn, c56 ht hr hv hs (show (ch S n).1 ≤ 99 by omega) hw htn, c32p ht hr hv (Nat.le_of_lt hn), hpr, Option.isSome_none, ↓reduceIte, false_and, and_false, false_or, or_false, ite_not, decide_true, decide_false, Bool.true_eq_false, Bool.false_eq_true, decide_eq_true_eq, decide_eq_false_iff_not, hp_I, hp_sI, hp_N, ev_k_s, ev_k_n, true_and, and_true, true_or, or_true, not_true_eq_false, not_false_eq_true, if_true, if_false, ite_self, Option.some.injEq, exists_eq_left', nb_0, nb_1, nb_z, zI_t, zI_f, zI_e, cat_i, cat_r, cat_n, iI_add, iI_sub, iI_mul, iI_neg, iI_lt, iI_le, iI_eq, iI_idx, iI_inT, iI_ne0, ite_false, ite_true, iN_0, iN_1, Int.reduceAdd, Int.reduceSub, Int.reduceMul, Int.reduceNeg, Int.reduceDiv, Int.reduceMod, Int.reduceEq, Int.reduceLT, Int.reduceLE, Int.reduceToNat, Nat.reduceAdd, Nat.reduceSub, Nat.reduceMul, Nat.reduceLT, Nat.reduceLeDiff, Nat.reduceEqDiff, Int.cast_ofNat_Int, Std.le_refl, and_self, Int.toNat_natCast, Int.toNat_zero, Nat.le_refl]
    rfl
  | some p =>
    obtain ⟨k, e, hk, hk2, hk3, hk4⟩ := pre_i hv (Nat.le_of_lt hn) hpr
    obtain ⟨z, hz, hz2⟩ := bhd_in S.1.1 S.1.2.2 (ch S k).1 p (ch S n).1 v (tns S.1.1 (ch S n).1 (ch S n).2.1)
    have c34' : ∀ Q : Option Value → fb_H → Prop, ev_c 34 [.ref t, .int (iI ((n : Int) - 1))] (hp L σ I) Q = Q (some (.int (iI ((pk4 (ch S k).1 p : Nat) : Int)))) (hp L σ I) := fun Q => by rw [show (n : Int) - 1 = (k : Int) by omega]; exact c34 ht hr hv hk hk2
    dsimp only
    rw [show n - 1 = k by omega, hz2]
    simp (disch := first | exact cat_i _ | exact cat_r _ | exact cat_n | omega) only [e55, u55_0, u55_1, u55_2, u55_3, u55_6, u55_7, u55_8, u55_9, u55_12, u55_14, u55_15, u55_16, u55_18, u55_21, u55_23, u55_24, u55_25, u55_26, u55_27, u55_30, u55_33, u55_35, u55_36, u55_37, u55_38, u55_39, u55_40, u55_43, u55_44, u55_46, u55_49, u55_50, u55_52, u55_54, hT_p ht, c33 ht hr hv hn hw, c37 ht hr hv hs hn, c56 ht hr hv hs (show (ch S n).1 ≤ 99 by omega) hw htn, c32p ht hr hv (Nat.le_of_lt hn), hpr, Option.isSome_some, c34', c57 ht hr hv hs hk4 hk3 (show (ch S n).1 ≤ 99 by omega) hw htn, hz2, iI_on (n := 5) ho, ↓reduceIte, false_and, and_false, false_or, or_false, ite_not, decide_true, decide_false, Bool.true_eq_false, Bool.false_eq_true, decide_eq_true_eq, decide_eq_false_iff_not, hp_I, hp_sI, hp_N, ev_k_s, ev_k_n, true_and, and_true, true_or, or_true, not_true_eq_false, not_false_eq_true, if_true, if_false, ite_self, Option.some.injEq, exists_eq_left', nb_0, nb_1, nb_z, zI_t, zI_f, zI_e, cat_i, cat_r, cat_n, iI_add, iI_sub, iI_mul, iI_neg, iI_lt, iI_le, iI_eq, iI_idx, iI_inT, iI_ne0, ite_false, ite_true, iN_0, iN_1, Int.reduceAdd, Int.reduceSub, Int.reduceMul, Int.reduceNeg, Int.reduceDiv, Int.reduceMod, Int.reduceEq, Int.reduceLT, Int.reduceLE, Int.reduceToNat, Nat.reduceAdd, Nat.reduceSub, Nat.reduceMul, Nat.reduceLT, Nat.reduceLeDiff, Nat.reduceEqDiff, Int.cast_ofNat_Int, Std.le_refl, and_self, Int.toNat_natCast, Int.toNat_zero, Nat.le_refl]
def flt (S : Co) (n : Nat) : Nat := match (ch S n).2.2 with
  | some v => flw S n v
  | none => 0
theorem flt_lt (S : Co) (n : Nat) : flt S n < 512 := by
  unfold flt
  split
  · exact flw_lt S n _
  · omega
theorem c54 (ht : isp t) (hr : RepP I t S) (hv : VS S) (hs : StI I) (hn : n < S.2.length) : ev_c 54 [.ref t, .int (iI (n : Int))] (hp L σ I) Q = Q (some (.int (iI (flt S n : Int)))) (hp L σ I) := by
  have hl := hv.2.2.2.1
  unfold flt
  cases hx : (ch S n).2.2 with
  | none => simp (disch := first | exact cat_i _ | exact cat_r _ | exact cat_n | omega) only [e54, u54_0, u54_1, u54_2, u54_5, u54_8, u54_9, u54_10, u54_11, u54_12, u54_15, u54_18, u54_21, u54_22, hT_p ht, c32 ht hr hv hn, hx, Option.isSome_none, ↓reduceIte, false_and, and_false, false_or, or_false, ite_not, decide_true, decide_false, Bool.true_eq_false, Bool.false_eq_true, decide_eq_true_eq, decide_eq_false_iff_not, hp_I, hp_sI, hp_N, ev_k_s, ev_k_n, true_and, and_true, true_or, or_true, not_true_eq_false, not_false_eq_true, if_true, if_false, ite_self, Option.some.injEq, exists_eq_left', nb_0, nb_1, nb_z, zI_t, zI_f, zI_e, cat_i, cat_r, cat_n, iI_add, iI_sub, iI_mul, iI_neg, iI_lt, iI_le, iI_eq, iI_idx, iI_inT, iI_ne0, ite_false, ite_true, iN_0, iN_1, Int.reduceAdd, Int.reduceSub, Int.reduceMul, Int.reduceNeg, Int.reduceDiv, Int.reduceMod, Int.reduceEq, Int.reduceLT, Int.reduceLE, Int.reduceToNat, Nat.reduceAdd, Nat.reduceSub, Nat.reduceMul, Nat.reduceLT, Nat.reduceLeDiff, Nat.reduceEqDiff, Int.cast_ofNat_Int, Std.le_refl, and_self, Int.toNat_natCast, Int.toNat_zero, Nat.le_refl]
  | some v =>
    have hw := (hv.2.2.2.2 n hn).2.2.2 v hx
    simp (disch := first | exact cat_i _ | exact cat_r _ | exact cat_n | omega) only [e54, u54_0, u54_1, u54_2, u54_5, u54_8, u54_9, u54_10, u54_11, u54_12, u54_15, u54_18, u54_21, u54_22, hT_p ht, c32 ht hr hv hn, c31 ht hr hv hn, hx, Option.isSome_some, pkO, c55 ht hr hv hs hn hw, ↓reduceIte, false_and, and_false, false_or, or_false, ite_not, decide_true, decide_false, Bool.true_eq_false, Bool.false_eq_true, decide_eq_true_eq, decide_eq_false_iff_not, hp_I, hp_sI, hp_N, ev_k_s, ev_k_n, true_and, and_true, true_or, or_true, not_true_eq_false, not_false_eq_true, if_true, if_false, ite_self, Option.some.injEq, exists_eq_left', nb_0, nb_1, nb_z, zI_t, zI_f, zI_e, cat_i, cat_r, cat_n, iI_add, iI_sub, iI_mul, iI_neg, iI_lt, iI_le, iI_eq, iI_idx, iI_inT, iI_ne0, ite_false, ite_true, iN_0, iN_1, Int.reduceAdd, Int.reduceSub, Int.reduceMul, Int.reduceNeg, Int.reduceDiv, Int.reduceMod, Int.reduceEq, Int.reduceLT, Int.reduceLE, Int.reduceToNat, Nat.reduceAdd, Nat.reduceSub, Nat.reduceMul, Nat.reduceLT, Nat.reduceLeDiff, Nat.reduceEqDiff, Int.cast_ofNat_Int, Std.le_refl, and_self, Int.toNat_natCast, Int.toNat_zero, Nat.le_refl]
def cst (S : Co) (n : Nat) : Nat := match pre S n, (ch S n).2.2 with
  | some p, some v => dst p v
  | _, _ => 0
theorem dst_lt (hv : VV v) (hw : VV w) : dst v w < 300 := by
  obtain ⟨h1, h2, h3⟩ := hv
  obtain ⟨h4, h5, h6⟩ := hw
  unfold dst
  omega
theorem cst_lt (hv : VS S) (hn : n < S.2.length) : cst S n < 300 := by
  unfold cst
  split
  · rename_i p v h1 h2
    obtain ⟨k, e, hk, hk2, hk3, hk4⟩ := pre_i hv (Nat.le_of_lt hn) h1
    exact dst_lt hk3 ((hv.2.2.2.2 n hn).2.2.2 v h2)
  · omega
theorem c66 (ht : isp t) (hr : RepP I t S) (hv : VS S) (hn : n < S.2.length) : ev_c 66 [.ref t, .int (iI (n : Int))] (hp L σ I) Q = Q (some (.int (iI (cst S n : Int)))) (hp L σ I) := by
  have hl := hv.2.2.2.1
  unfold cst
  cases hx : (ch S n).2.2 with
  | none =>
    have : (match pre S n, (none : Option (Nat × Nat × Nat)) with
      | some p, some v => dst p v
      | _, _ => 0) = 0 := by cases pre S n <;> rfl
    rw [this]
    simp (disch := first | exact cat_i _ | exact cat_r _ | exact cat_n | omega) only [e66, u66_0, u66_1, u66_2, u66_5, u66_8, u66_9, u66_10, u66_11, u66_12, u66_15, u66_18, u66_19, u66_20, u66_21, u66_22, u66_23, u66_24, u66_27, u66_28, u66_29, u66_32, u66_35, hT_p ht, c32 ht hr hv hn, hx, Option.isSome_none, ↓reduceIte, false_and, and_false, false_or, or_false, ite_not, decide_true, decide_false, Bool.true_eq_false, Bool.false_eq_true, decide_eq_true_eq, decide_eq_false_iff_not, hp_I, hp_sI, hp_N, ev_k_s, ev_k_n, true_and, and_true, true_or, or_true, not_true_eq_false, not_false_eq_true, if_true, if_false, ite_self, Option.some.injEq, exists_eq_left', nb_0, nb_1, nb_z, zI_t, zI_f, zI_e, cat_i, cat_r, cat_n, iI_add, iI_sub, iI_mul, iI_neg, iI_lt, iI_le, iI_eq, iI_idx, iI_inT, iI_ne0, ite_false, ite_true, iN_0, iN_1, Int.reduceAdd, Int.reduceSub, Int.reduceMul, Int.reduceNeg, Int.reduceDiv, Int.reduceMod, Int.reduceEq, Int.reduceLT, Int.reduceLE, Int.reduceToNat, Nat.reduceAdd, Nat.reduceSub, Nat.reduceMul, Nat.reduceLT, Nat.reduceLeDiff, Nat.reduceEqDiff, Int.cast_ofNat_Int, Std.le_refl, and_self, Int.toNat_natCast, Int.toNat_zero, Nat.le_refl]
  | some v =>
    have hw := (hv.2.2.2.2 n hn).2.2.2 v hx
    cases hpr : pre S n with
    | none =>
      simp (disch := first | exact cat_i _ | exact cat_r _ | exact cat_n | omega) only [e66, u66_0, u66_1, u66_2, u66_5, u66_8, u66_9, u66_10, u66_11, u66_12, u66_15, u66_18, u66_19, u66_20, u66_21, u66_22, u66_23, u66_24, u66_27, u66_28, u66_29, u66_32, u66_35, hT_p ht, c32 ht hr hv hn, c32p ht hr hv (Nat.le_of_lt hn), hx, hpr, Option.isSome_some, Option.isSome_none, ↓reduceIte, false_and, and_false, false_or, or_false, ite_not, decide_true, decide_false, Bool.true_eq_false, Bool.false_eq_true, decide_eq_true_eq, decide_eq_false_iff_not, hp_I, hp_sI, hp_N, ev_k_s, ev_k_n, true_and, and_true, true_or, or_true, not_true_eq_false, not_false_eq_true, if_true, if_false, ite_self, Option.some.injEq, exists_eq_left', nb_0, nb_1, nb_z, zI_t, zI_f, zI_e, cat_i, cat_r, cat_n, iI_add, iI_sub, iI_mul, iI_neg, iI_lt, iI_le, iI_eq, iI_idx, iI_inT, iI_ne0, ite_false, ite_true, iN_0, iN_1, Int.reduceAdd, Int.reduceSub, Int.reduceMul, Int.reduceNeg, Int.reduceDiv, Int.reduceMod, Int.reduceEq, Int.reduceLT, Int.reduceLE, Int.reduceToNat, Nat.reduceAdd, Nat.reduceSub, Nat.reduceMul, Nat.reduceLT, Nat.reduceLeDiff, Nat.reduceEqDiff, Int.cast_ofNat_Int, Std.le_refl, and_self, Int.toNat_natCast, Int.toNat_zero, Nat.le_refl]
    | some p =>
      obtain ⟨k, e, hk, hk2, hk3, hk4⟩ := pre_i hv (Nat.le_of_lt hn) hpr
      have c31' : ∀ Q : Option Value → fb_H → Prop, ev_c 31 [.ref t, .int (iI ((n : Int) - 1))] (hp L σ I) Q = Q (some (.int (iI ((pkv p : Nat) : Int)))) (hp L σ I) := fun Q => by rw [show (n : Int) - 1 = (k : Int) by omega, c31 ht hr hv hk, hk2]; rfl
      simp (disch := first | exact cat_i _ | exact cat_r _ | exact cat_n | omega) only [e66, u66_0, u66_1, u66_2, u66_5, u66_8, u66_9, u66_10, u66_11, u66_12, u66_15, u66_18, u66_19, u66_20, u66_21, u66_22, u66_23, u66_24, u66_27, u66_28, u66_29, u66_32, u66_35, hT_p ht, c32 ht hr hv hn, c31 ht hr hv hn, c31', c32p ht hr hv (Nat.le_of_lt hn), hx, hpr, Option.isSome_some, pkO, c111 hk3 hw, ↓reduceIte, false_and, and_false, false_or, or_false, ite_not, decide_true, decide_false, Bool.true_eq_false, Bool.false_eq_true, decide_eq_true_eq, decide_eq_false_iff_not, hp_I, hp_sI, hp_N, ev_k_s, ev_k_n, true_and, and_true, true_or, or_true, not_true_eq_false, not_false_eq_true, if_true, if_false, ite_self, Option.some.injEq, exists_eq_left', nb_0, nb_1, nb_z, zI_t, zI_f, zI_e, cat_i, cat_r, cat_n, iI_add, iI_sub, iI_mul, iI_neg, iI_lt, iI_le, iI_eq, iI_idx, iI_inT, iI_ne0, ite_false, ite_true, iN_0, iN_1, Int.reduceAdd, Int.reduceSub, Int.reduceMul, Int.reduceNeg, Int.reduceDiv, Int.reduceMod, Int.reduceEq, Int.reduceLT, Int.reduceLE, Int.reduceToNat, Nat.reduceAdd, Nat.reduceSub, Nat.reduceMul, Nat.reduceLT, Nat.reduceLeDiff, Nat.reduceEqDiff, Int.cast_ofNat_Int, Std.le_refl, and_self, Int.toNat_natCast, Int.toNat_zero, Nat.le_refl]
def cstA (S : Co) : Nat := (List.range S.2.length).foldl (fun a c => a + cst S c) 0
theorem c67 (ht : isp t) (hr : RepP I t S) (hv : VS S) : ev_c 67 [.ref t] (hp L σ I) Q = Q (some (.int (iI (cstA S : Int)))) (hp L σ I) := by
  have hl := hv.2.2.2.1
  have lp := (lf0 (fun (a k : Nat) => ev_w 67 4 [.ref t, .int (iI (a : Int)), .int (iI (k : Int))] [] (hp L σ I) Q) (fun a c => a + cst S c) (fun _ _ => True) S.2.length (fun a k hk _ => ⟨trivial, by
    show ev_w 67 4 [.ref t, .int (iI (a : Int)), .int (iI (k : Int))] [] (hp L σ I) Q = _
    rw [u67_4]
    simp (disch := first | exact cat_i _ | exact cat_r _ | exact cat_n | omega) only [u67_5, u67_6, u67_9, u67_12, u67_13, u67_14, u67_15, u67_18, u67_19, u67_20, u67_23, u67_26, u67_27, hT_p ht, c25 ht hr, c66 ht hr hv hk, if_pos, if_neg, ↓reduceIte, false_and, and_false, false_or, or_false, ite_not, decide_true, decide_false, Bool.true_eq_false, Bool.false_eq_true, decide_eq_true_eq, decide_eq_false_iff_not, hp_I, hp_sI, hp_N, ev_k_s, ev_k_n, true_and, and_true, true_or, or_true, not_true_eq_false, not_false_eq_true, if_true, if_false, ite_self, Option.some.injEq, exists_eq_left', nb_0, nb_1, nb_z, zI_t, zI_f, zI_e, cat_i, cat_r, cat_n, iI_add, iI_sub, iI_mul, iI_neg, iI_lt, iI_le, iI_eq, iI_idx, iI_inT, iI_ne0, ite_false, ite_true, iN_0, iN_1, Int.reduceAdd, Int.reduceSub, Int.reduceMul, Int.reduceNeg, Int.reduceDiv, Int.reduceMod, Int.reduceEq, Int.reduceLT, Int.reduceLE, Int.reduceToNat, Nat.reduceAdd, Nat.reduceSub, Nat.reduceMul, Nat.reduceLT, Nat.reduceLeDiff, Nat.reduceEqDiff, Int.cast_ofNat_Int, Std.le_refl, and_self, Int.toNat_natCast, Int.toNat_zero, Nat.le_refl]
    rfl⟩) 0 trivial).1
  simp (disch := first | exact cat_i _ | exact cat_r _ | exact cat_n | omega) only [u67_0, u67_1, u67_2, u67_3, e67, ↓reduceIte, false_and, and_false, false_or, or_false, ite_not, decide_true, decide_false, Bool.true_eq_false, Bool.false_eq_true, decide_eq_true_eq, decide_eq_false_iff_not, hp_I, hp_sI, hp_N, ev_k_s, ev_k_n, true_and, and_true, true_or, or_true, not_true_eq_false, not_false_eq_true, if_true, if_false, ite_self, Option.some.injEq, exists_eq_left', nb_0, nb_1, nb_z, zI_t, zI_f, zI_e, cat_i, cat_r, cat_n, iI_add, iI_sub, iI_mul, iI_neg, iI_lt, iI_le, iI_eq, iI_idx, iI_inT, iI_ne0, ite_false, ite_true, iN_0, iN_1, Int.reduceAdd, Int.reduceSub, Int.reduceMul, Int.reduceNeg, Int.reduceDiv, Int.reduceMod, Int.reduceEq, Int.reduceLT, Int.reduceLE, Int.reduceToNat, Nat.reduceAdd, Nat.reduceSub, Nat.reduceMul, Nat.reduceLT, Nat.reduceLeDiff, Nat.reduceEqDiff, Int.cast_ofNat_Int, Std.le_refl, and_self, Int.toNat_natCast, Int.toNat_zero, Nat.le_refl]
  refine Eq.trans lp ?_
  simp (disch := first | exact cat_i _ | exact cat_r _ | exact cat_n | omega) only [u67_4, u67_5, u67_6, u67_9, u67_12, u67_13, u67_14, u67_15, u67_18, u67_19, u67_20, u67_23, u67_26, u67_27, hT_p ht, c25 ht hr, if_pos, if_neg, ↓reduceIte, false_and, and_false, false_or, or_false, ite_not, decide_true, decide_false, Bool.true_eq_false, Bool.false_eq_true, decide_eq_true_eq, decide_eq_false_iff_not, hp_I, hp_sI, hp_N, ev_k_s, ev_k_n, true_and, and_true, true_or, or_true, not_true_eq_false, not_false_eq_true, if_true, if_false, ite_self, Option.some.injEq, exists_eq_left', nb_0, nb_1, nb_z, zI_t, zI_f, zI_e, cat_i, cat_r, cat_n, iI_add, iI_sub, iI_mul, iI_neg, iI_lt, iI_le, iI_eq, iI_idx, iI_inT, iI_ne0, ite_false, ite_true, iN_0, iN_1, Int.reduceAdd, Int.reduceSub, Int.reduceMul, Int.reduceNeg, Int.reduceDiv, Int.reduceMod, Int.reduceEq, Int.reduceLT, Int.reduceLE, Int.reduceToNat, Nat.reduceAdd, Nat.reduceSub, Nat.reduceMul, Nat.reduceLT, Nat.reduceLeDiff, Nat.reduceEqDiff, Int.cast_ofNat_Int, Std.le_refl, and_self, Int.toNat_natCast, Int.toNat_zero, Nat.le_refl]
  rfl
def fcs (S : Co) : Nat := (List.range S.2.length).foldl (fun a c => if flt S c = 0 then a else a ||| 2 ^ c) 0
theorem c68 (ht : isp t) (hr : RepP I t S) (hv : VS S) (hs : StI I) : ev_c 68 [.ref t] (hp L σ I) Q = Q (some (.int (iI (fcs S : Int)))) (hp L σ I) := by
  have hl := hv.2.2.2.1
  have lp := (lf0 (fun (a k : Nat) => ev_w 68 4 [.ref t, .int (iI (a : Int)), .int (iI (k : Int))] [] (hp L σ I) Q) (fun a c => if flt S c = 0 then a else a ||| 2 ^ c) (fun _ _ => True) S.2.length (fun a k hk _ => ⟨trivial, by
    have hf := flt_lt S k
    show ev_w 68 4 [.ref t, .int (iI (a : Int)), .int (iI (k : Int))] [] (hp L σ I) Q = _
    rw [u68_4]
    simp (disch := first | exact cat_i _ | exact cat_r _ | exact cat_n | omega) only [u68_5, u68_6, u68_9, u68_12, u68_13, u68_14, u68_17, u68_20, u68_21, u68_22, u68_23, u68_24, u68_25, u68_26, u68_29, hT_p ht, c25 ht hr, c54 ht hr hv hs hk, iI_shl1, iI_or, if_pos, if_neg, ↓reduceIte, false_and, and_false, false_or, or_false, ite_not, decide_true, decide_false, Bool.true_eq_false, Bool.false_eq_true, decide_eq_true_eq, decide_eq_false_iff_not, hp_I, hp_sI, hp_N, ev_k_s, ev_k_n, true_and, and_true, true_or, or_true, not_true_eq_false, not_false_eq_true, if_true, if_false, ite_self, Option.some.injEq, exists_eq_left', nb_0, nb_1, nb_z, zI_t, zI_f, zI_e, cat_i, cat_r, cat_n, iI_add, iI_sub, iI_mul, iI_neg, iI_lt, iI_le, iI_eq, iI_idx, iI_inT, iI_ne0, ite_false, ite_true, iN_0, iN_1, Int.reduceAdd, Int.reduceSub, Int.reduceMul, Int.reduceNeg, Int.reduceDiv, Int.reduceMod, Int.reduceEq, Int.reduceLT, Int.reduceLE, Int.reduceToNat, Nat.reduceAdd, Nat.reduceSub, Nat.reduceMul, Nat.reduceLT, Nat.reduceLeDiff, Nat.reduceEqDiff, Int.cast_ofNat_Int, Std.le_refl, and_self, Int.toNat_natCast, Int.toNat_zero, Nat.le_refl]
    by_cases q : flt S k = 0
    · rw [if_pos (by omega), if_pos q]; rfl
    · rw [if_neg (by omega), if_neg q]; rfl⟩) 0 trivial).1
  simp (disch := first | exact cat_i _ | exact cat_r _ | exact cat_n | omega) only [u68_0, u68_1, u68_2, u68_3, e68, ↓reduceIte, false_and, and_false, false_or, or_false, ite_not, decide_true, decide_false, Bool.true_eq_false, Bool.false_eq_true, decide_eq_true_eq, decide_eq_false_iff_not, hp_I, hp_sI, hp_N, ev_k_s, ev_k_n, true_and, and_true, true_or, or_true, not_true_eq_false, not_false_eq_true, if_true, if_false, ite_self, Option.some.injEq, exists_eq_left', nb_0, nb_1, nb_z, zI_t, zI_f, zI_e, cat_i, cat_r, cat_n, iI_add, iI_sub, iI_mul, iI_neg, iI_lt, iI_le, iI_eq, iI_idx, iI_inT, iI_ne0, ite_false, ite_true, iN_0, iN_1, Int.reduceAdd, Int.reduceSub, Int.reduceMul, Int.reduceNeg, Int.reduceDiv, Int.reduceMod, Int.reduceEq, Int.reduceLT, Int.reduceLE, Int.reduceToNat, Nat.reduceAdd, Nat.reduceSub, Nat.reduceMul, Nat.reduceLT, Nat.reduceLeDiff, Nat.reduceEqDiff, Int.cast_ofNat_Int, Std.le_refl, and_self, Int.toNat_natCast, Int.toNat_zero, Nat.le_refl]
  refine Eq.trans lp ?_
  simp (disch := first | exact cat_i _ | exact cat_r _ | exact cat_n | omega) only [u68_4, u68_5, u68_6, u68_9, u68_32, u68_33, hT_p ht, c25 ht hr, if_pos, if_neg, ↓reduceIte, false_and, and_false, false_or, or_false, ite_not, decide_true, decide_false, Bool.true_eq_false, Bool.false_eq_true, decide_eq_true_eq, decide_eq_false_iff_not, hp_I, hp_sI, hp_N, ev_k_s, ev_k_n, true_and, and_true, true_or, or_true, not_true_eq_false, not_false_eq_true, if_true, if_false, ite_self, Option.some.injEq, exists_eq_left', nb_0, nb_1, nb_z, zI_t, zI_f, zI_e, cat_i, cat_r, cat_n, iI_add, iI_sub, iI_mul, iI_neg, iI_lt, iI_le, iI_eq, iI_idx, iI_inT, iI_ne0, ite_false, ite_true, iN_0, iN_1, Int.reduceAdd, Int.reduceSub, Int.reduceMul, Int.reduceNeg, Int.reduceDiv, Int.reduceMod, Int.reduceEq, Int.reduceLT, Int.reduceLE, Int.reduceToNat, Nat.reduceAdd, Nat.reduceSub, Nat.reduceMul, Nat.reduceLT, Nat.reduceLeDiff, Nat.reduceEqDiff, Int.cast_ofNat_Int, Std.le_refl, and_self, Int.toNat_natCast, Int.toNat_zero, Nat.le_refl]
  rfl
def fas (S : Co) : Nat := (List.range S.2.length).foldl (fun a c => a + bcn (flt S c)) 0
theorem c69 (ht : isp t) (hr : RepP I t S) (hv : VS S) (hs : StI I) : ev_c 69 [.ref t] (hp L σ I) Q = Q (some (.int (iI (fas S : Int)))) (hp L σ I) := by
  have hl := hv.2.2.2.1
  have lp := (lf0 (fun (a k : Nat) => ev_w 69 4 [.ref t, .int (iI (a : Int)), .int (iI (k : Int))] [] (hp L σ I) Q) (fun a c => a + bcn (flt S c)) (fun _ _ => True) S.2.length (fun a k hk _ => ⟨trivial, by
    have hf := flt_lt S k
    show ev_w 69 4 [.ref t, .int (iI (a : Int)), .int (iI (k : Int))] [] (hp L σ I) Q = _
    rw [u69_4]
    simp (disch := first | exact cat_i _ | exact cat_r _ | exact cat_n | omega) only [u69_5, u69_6, u69_9, u69_12, u69_13, u69_14, u69_15, u69_18, u69_21, u69_22, u69_23, u69_26, hT_p ht, c25 ht hr, c54 ht hr hv hs hk, c185 (show flt S k < 1024 by omega), if_pos, if_neg, ↓reduceIte, false_and, and_false, false_or, or_false, ite_not, decide_true, decide_false, Bool.true_eq_false, Bool.false_eq_true, decide_eq_true_eq, decide_eq_false_iff_not, hp_I, hp_sI, hp_N, ev_k_s, ev_k_n, true_and, and_true, true_or, or_true, not_true_eq_false, not_false_eq_true, if_true, if_false, ite_self, Option.some.injEq, exists_eq_left', nb_0, nb_1, nb_z, zI_t, zI_f, zI_e, cat_i, cat_r, cat_n, iI_add, iI_sub, iI_mul, iI_neg, iI_lt, iI_le, iI_eq, iI_idx, iI_inT, iI_ne0, ite_false, ite_true, iN_0, iN_1, Int.reduceAdd, Int.reduceSub, Int.reduceMul, Int.reduceNeg, Int.reduceDiv, Int.reduceMod, Int.reduceEq, Int.reduceLT, Int.reduceLE, Int.reduceToNat, Nat.reduceAdd, Nat.reduceSub, Nat.reduceMul, Nat.reduceLT, Nat.reduceLeDiff, Nat.reduceEqDiff, Int.cast_ofNat_Int, Std.le_refl, and_self, Int.toNat_natCast, Int.toNat_zero, Nat.le_refl]
    rfl⟩) 0 trivial).1
  simp (disch := first | exact cat_i _ | exact cat_r _ | exact cat_n | omega) only [u69_0, u69_1, u69_2, u69_3, e69, ↓reduceIte, false_and, and_false, false_or, or_false, ite_not, decide_true, decide_false, Bool.true_eq_false, Bool.false_eq_true, decide_eq_true_eq, decide_eq_false_iff_not, hp_I, hp_sI, hp_N, ev_k_s, ev_k_n, true_and, and_true, true_or, or_true, not_true_eq_false, not_false_eq_true, if_true, if_false, ite_self, Option.some.injEq, exists_eq_left', nb_0, nb_1, nb_z, zI_t, zI_f, zI_e, cat_i, cat_r, cat_n, iI_add, iI_sub, iI_mul, iI_neg, iI_lt, iI_le, iI_eq, iI_idx, iI_inT, iI_ne0, ite_false, ite_true, iN_0, iN_1, Int.reduceAdd, Int.reduceSub, Int.reduceMul, Int.reduceNeg, Int.reduceDiv, Int.reduceMod, Int.reduceEq, Int.reduceLT, Int.reduceLE, Int.reduceToNat, Nat.reduceAdd, Nat.reduceSub, Nat.reduceMul, Nat.reduceLT, Nat.reduceLeDiff, Nat.reduceEqDiff, Int.cast_ofNat_Int, Std.le_refl, and_self, Int.toNat_natCast, Int.toNat_zero, Nat.le_refl]
  refine Eq.trans lp ?_
  simp (disch := first | exact cat_i _ | exact cat_r _ | exact cat_n | omega) only [u69_4, u69_5, u69_6, u69_9, u69_29, u69_30, hT_p ht, c25 ht hr, if_pos, if_neg, ↓reduceIte, false_and, and_false, false_or, or_false, ite_not, decide_true, decide_false, Bool.true_eq_false, Bool.false_eq_true, decide_eq_true_eq, decide_eq_false_iff_not, hp_I, hp_sI, hp_N, ev_k_s, ev_k_n, true_and, and_true, true_or, or_true, not_true_eq_false, not_false_eq_true, if_true, if_false, ite_self, Option.some.injEq, exists_eq_left', nb_0, nb_1, nb_z, zI_t, zI_f, zI_e, cat_i, cat_r, cat_n, iI_add, iI_sub, iI_mul, iI_neg, iI_lt, iI_le, iI_eq, iI_idx, iI_inT, iI_ne0, ite_false, ite_true, iN_0, iN_1, Int.reduceAdd, Int.reduceSub, Int.reduceMul, Int.reduceNeg, Int.reduceDiv, Int.reduceMod, Int.reduceEq, Int.reduceLT, Int.reduceLE, Int.reduceToNat, Nat.reduceAdd, Nat.reduceSub, Nat.reduceMul, Nat.reduceLT, Nat.reduceLeDiff, Nat.reduceEqDiff, Int.cast_ofNat_Int, Std.le_refl, and_self, Int.toNat_natCast, Int.toNat_zero, Nat.le_refl]
  rfl
end SU
