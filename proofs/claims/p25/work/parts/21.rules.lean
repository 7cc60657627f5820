/-! what is wrong with a chord -/
def nt (b : Nat) (v : Nat × Nat × Nat) : Nat → Nat
  | 0 => b | 1 => v.1 | 2 => v.2.1 | _ => v.2.2
def oop (b : Nat) (v : Nat × Nat × Nat) : Bool := decide (v.1 < 48 ∨ 67 < v.1 ∨ v.1 ≤ b ∨ v.2.1 < 53 ∨ 74 < v.2.1 ∨ v.2.1 ≤ v.1 ∨ v.2.2 < 58 ∨ 79 < v.2.2 ∨ v.2.2 ≤ v.2.1)
def wid (v : Nat × Nat × Nat) (span : Nat) : Bool := decide (v.1 + 12 < v.2.1 ∨ v.2.1 + 12 < v.2.2 ∨ v.1 + span < v.2.2)
def stg (v : Nat × Nat × Nat) (m : Nat) : Bool := !(m.testBit (v.1 % 12) && m.testBit (v.2.1 % 12) && m.testBit (v.2.2 % 12))
def lck (b : Nat) (v : Nat × Nat × Nat) (m : Nat) : Bool := decide (dif (dif (dif (dif m (2 ^ (b % 12))) (2 ^ (v.1 % 12))) (2 ^ (v.2.1 % 12))) (2 ^ (v.2.2 % 12)) ≠ 0)
def dbl (b : Nat) (v : Nat × Nat × Nat) (d : Int) : Bool := decide (1 < (if (b : Int) % 12 = d then 1 else 0) + (if (v.1 : Int) % 12 = d then 1 else 0) + (if (v.2.1 : Int) % 12 = d then 1 else 0) + (if (v.2.2 : Int) % 12 = d then (1 : Nat) else 0))
def lps (v w : Nat × Nat × Nat) (most : Nat) : Bool := decide (most < ((w.1 : Int) - v.1).natAbs ∨ most < ((w.2.1 : Int) - v.2.1).natAbs ∨ most < ((w.2.2 : Int) - v.2.2).natAbs)
def hbk (v w : Nat × Nat × Nat) (d : Int) : Bool := decide (((v.1 : Int) % 12 = d ∧ w.1 ≠ v.1 + 1) ∨ ((v.2.1 : Int) % 12 = d ∧ w.2.1 ≠ v.2.1 + 1) ∨ ((v.2.2 : Int) % 12 = d ∧ w.2.2 ≠ v.2.2 + 1))
def cnd (b : Nat) (v : Nat × Nat × Nat) (b' : Nat) (w : Nat × Nat × Nat) (iv : Int) (i j : Nat) : Bool := decide (nt b v i ≠ nt b' w i ∧ nt b v j ≠ nt b' w j ∧ ((nt b v j : Int) - nt b v i) % 12 = iv ∧ ((nt b' w j : Int) - nt b' w i) % 12 = iv)
def par (b : Nat) (v : Nat × Nat × Nat) (b' : Nat) (w : Nat × Nat × Nat) (iv : Int) : Int := if cnd b v b' w iv 0 1 then 1 else if cnd b v b' w iv 0 2 then 2 else if cnd b v b' w iv 0 3 then 3 else if cnd b v b' w iv 1 2 then 6 else if cnd b v b' w iv 1 3 then 7 else if cnd b v b' w iv 2 3 then 11 else -6
theorem tn12 (n : Nat) : ((n : Int) % 12).toNat = n % 12 := by omega
theorem dif_lt {m p : Nat} (h : m < 4096) : dif m p < 4096 := by
  unfold dif
  have h2 : m &&& p < 2 ^ 12 := Nat.lt_of_le_of_lt Nat.and_le_left h
  exact Nat.xor_lt_two_pow (n := 12) h h2
section RU
variable {h : fb_H} {Q : Option Value → fb_H → Prop} {c d : Int} {n m b b' : Nat} {v w : Nat × Nat × Nat} {L t : Nat} {σ : Nat → Nat} {I : Nat → Nat → Int32} {S : Co}
theorem c110g {k : Nat} (hb : b ≤ 127) (hv : VV v) (hk : k < 4) : ev_c 110 [.int (iI (pk4 b v : Int)), .int (iI (k : Int))] h Q = Q (some (.int (iI ((nt b v k : Nat) : Int)))) h := match k, hk with
  | 0, _ => c110_0 hb hv | 1, _ => c110_1 hb hv | 2, _ => c110_2 hb hv | 3, _ => c110_3 hb hv
theorem nt_le (hb : b ≤ 99) (hv : VV v) (k : Nat) : nt b v k ≤ 99 := by
  obtain ⟨h1, h2, h3⟩ := hv
  match k with
  | 0 => exact hb
  | 1 => exact h1
  | 2 => exact h2
  | k + 3 => exact h3
theorem c58 (hs : StI I) (hb : b ≤ 99) (hv : VV v) : ev_c 58 [.int (iI (pk4 b v : Int))] (hp L σ I) Q = Q (some (.int (zI (oop b v)))) (hp L σ I) := by
  have hb2 : b ≤ 127 := by omega
  obtain ⟨h1, h2, h3⟩ := id hv
  simp (disch := first | exact cat_i _ | exact cat_r _ | exact cat_n | omega) only [e58, u58_0, u58_1, u58_2, u58_3, u58_4, u58_7, u58_8, u58_9, u58_12, u58_13, u58_14, u58_17, u58_18, u58_19, u58_22, u58_23, u58_26, u58_27, u58_28, u58_31, u58_32, u58_33, u58_34, u58_35, u58_36, u58_39, u58_42, u58_43, u58_44, u58_47, u58_50, u58_51, hT_1000004, hT_1000005, hs.l1, hs.l2, hs.l3, hs.h1, hs.h2, hs.h3, c110_0 hb2 hv, c110_1 hb2 hv, c110_2 hb2 hv, c110_3 hb2 hv, ↓reduceIte, false_and, and_false, false_or, or_false, ite_not, decide_true, decide_false, Bool.true_eq_false, Bool.false_eq_true, decide_eq_true_eq, decide_eq_false_iff_not, hp_I, hp_sI, hp_N, ev_k_s, ev_k_n, true_and, and_true, true_or, or_true, not_true_eq_false, not_false_eq_true, if_true, if_false, ite_self, Option.some.injEq, exists_eq_left', nb_0, nb_1, nb_z, zI_t, zI_f, zI_e, cat_i, cat_r, cat_n, iI_add, iI_sub, iI_mul, iI_neg, iI_lt, iI_le, iI_eq, iI_idx, iI_inT, iI_ne0, ite_false, ite_true, iN_0, iN_1, Int.reduceAdd, Int.reduceSub, Int.reduceMul, Int.reduceNeg, Int.reduceDiv, Int.reduceMod, Int.reduceEq, Int.reduceLT, Int.reduceLE, Int.reduceToNat, Nat.reduceAdd, Nat.reduceSub, Nat.reduceMul, Nat.reduceLT, Nat.reduceLeDiff, Nat.reduceEqDiff, Int.cast_ofNat_Int, Std.le_refl, and_self, Int.toNat_natCast, Int.toNat_zero, Nat.le_refl]
  unfold oop
  repeat' split
  all_goals first | rw [zI_dt (by omega)] | rw [zI_df (by omega)]
theorem c59 (hb : b ≤ 99) (hv : VV v) (hn : n ≤ 100) : ev_c 59 [.int (iI (pk4 b v : Int)), .int (iI (n : Int))] h Q = Q (some (.int (zI (wid v n)))) h := by
  have hb2 : b ≤ 127 := by omega
  obtain ⟨h1, h2, h3⟩ := id hv
  simp (disch := first | exact cat_i _ | exact cat_r _ | exact cat_n | omega) only [e59, u59_0, u59_1, u59_2, u59_5, u59_6, u59_7, u59_8, u59_11, u59_12, u59_13, u59_14, u59_17, u59_19, u59_20, u59_21, u59_22, u59_24, u59_27, u59_29, u59_30, u59_31, u59_33, u59_36, u59_38, u59_39, u59_40, u59_41, u59_44, u59_45, u59_48, u59_49, c110_1 hb2 hv, c110_2 hb2 hv, c110_3 hb2 hv, ↓reduceIte, false_and, and_false, false_or, or_false, ite_not, decide_true, decide_false, Bool.true_eq_false, Bool.false_eq_true, decide_eq_true_eq, decide_eq_false_iff_not, hp_I, hp_sI, hp_N, ev_k_s, ev_k_n, true_and, and_true, true_or, or_true, not_true_eq_false, not_false_eq_true, if_true, if_false, ite_self, Option.some.injEq, exists_eq_left', nb_0, nb_1, nb_z, zI_t, zI_f, zI_e, cat_i, cat_r, cat_n, iI_add, iI_sub, iI_mul, iI_neg, iI_lt, iI_le, iI_eq, iI_idx, iI_inT, iI_ne0, ite_false, ite_true, iN_0, iN_1, Int.reduceAdd, Int.reduceSub, Int.reduceMul, Int.reduceNeg, Int.reduceDiv, Int.reduceMod, Int.reduceEq, Int.reduceLT, Int.reduceLE, Int.reduceToNat, Nat.reduceAdd, Nat.reduceSub, Nat.reduceMul, Nat.reduceLT, Nat.reduceLeDiff, Nat.reduceEqDiff, Int.cast_ofNat_Int, Std.le_refl, and_self, Int.toNat_natCast, Int.toNat_zero, Nat.le_refl]
  unfold wid
  repeat' split
  all_goals first | rw [zI_dt (by omega)] | rw [zI_df (by omega)]
theorem c60 (hb : b ≤ 99) (hv : VV v) (hm : m < 4096) : ev_c 60 [.int (iI (pk4 b v : Int)), .int (iI (m : Int))] h Q = Q (some (.int (zI (stg v m)))) h := by
  have hb2 : b ≤ 127 := by omega
  obtain ⟨h1, h2, h3⟩ := id hv
  unfold stg
  simp (disch := first | exact cat_i _ | exact cat_r _ | exact cat_n | omega) only [e60, u60_0, u60_1, u60_2, u60_3, u60_4, u60_7, u60_8, u60_9, u60_10, u60_13, u60_16, u60_19, u60_22, u60_23, u60_24, u60_27, u60_30, u60_31, c110_1 hb2 hv, c110_2 hb2 hv, c110_3 hb2 hv, c105, c106, tn12, ↓reduceIte, false_and, and_false, false_or, or_false, ite_not, decide_true, decide_false, Bool.true_eq_false, Bool.false_eq_true, decide_eq_true_eq, decide_eq_false_iff_not, hp_I, hp_sI, hp_N, ev_k_s, ev_k_n, true_and, and_true, true_or, or_true, not_true_eq_false, not_false_eq_true, if_true, if_false, ite_self, Option.some.injEq, exists_eq_left', nb_0, nb_1, nb_z, zI_t, zI_f, zI_e, cat_i, cat_r, cat_n, iI_add, iI_sub, iI_mul, iI_neg, iI_lt, iI_le, iI_eq, iI_idx, iI_inT, iI_ne0, ite_false, ite_true, iN_0, iN_1, Int.reduceAdd, Int.reduceSub, Int.reduceMul, Int.reduceNeg, Int.reduceDiv, Int.reduceMod, Int.reduceEq, Int.reduceLT, Int.reduceLE, Int.reduceToNat, Nat.reduceAdd, Nat.reduceSub, Nat.reduceMul, Nat.reduceLT, Nat.reduceLeDiff, Nat.reduceEqDiff, Int.cast_ofNat_Int, Std.le_refl, and_self, Int.toNat_natCast, Int.toNat_zero, Nat.le_refl]
  cases m.testBit (v.1 % 12) <;> cases m.testBit (v.2.1 % 12) <;> cases m.testBit (v.2.2 % 12) <;> rfl
theorem c61 (hb : b ≤ 99) (hv : VV v) (hm : m < 4096) : ev_c 61 [.int (iI (pk4 b v : Int)), .int (iI (m : Int))] h Q = Q (some (.int (zI (lck b v m)))) h := by
  have hb2 : b ≤ 127 := by omega
  obtain ⟨h1, h2, h3⟩ := id hv
  have h4 := dif_lt (p := 2 ^ (v.2.2 % 12)) (dif_lt (p := 2 ^ (v.2.1 % 12)) (dif_lt (p := 2 ^ (v.1 % 12)) (dif_lt (p := 2 ^ (b % 12)) hm)))
  unfold lck
  simp (disch := first | exact cat_i _ | exact cat_r _ | exact cat_n | omega) only [e61, u61_0, u61_1, u61_2, u61_3, u61_4, u61_5, u61_6, u61_9, u61_10, u61_11, u61_12, u61_13, u61_16, u61_19, u61_20, u61_21, u61_22, u61_23, u61_24, u61_27, u61_30, u61_31, u61_34, u61_35, u61_38, u61_39, c110_0 hb2 hv, c110_1 hb2 hv, c110_2 hb2 hv, c110_3 hb2 hv, c105, iI_shl1, iI_dif, tn12, ↓reduceIte, false_and, and_false, false_or, or_false, ite_not, decide_true, decide_false, Bool.true_eq_false, Bool.false_eq_true, decide_eq_true_eq, decide_eq_false_iff_not, hp_I, hp_sI, hp_N, ev_k_s, ev_k_n, true_and, and_true, true_or, or_true, not_true_eq_false, not_false_eq_true, if_true, if_false, ite_self, Option.some.injEq, exists_eq_left', nb_0, nb_1, nb_z, zI_t, zI_f, zI_e, cat_i, cat_r, cat_n, iI_add, iI_sub, iI_mul, iI_neg, iI_lt, iI_le, iI_eq, iI_idx, iI_inT, iI_ne0, ite_false, ite_true, iN_0, iN_1, Int.reduceAdd, Int.reduceSub, Int.reduceMul, Int.reduceNeg, Int.reduceDiv, Int.reduceMod, Int.reduceEq, Int.reduceLT, Int.reduceLE, Int.reduceToNat, Nat.reduceAdd, Nat.reduceSub, Nat.reduceMul, Nat.reduceLT, Nat.reduceLeDiff, Nat.reduceEqDiff, Int.cast_ofNat_Int, Std.le_refl, and_self, Int.toNat_natCast, Int.toNat_zero, Nat.le_refl]
  generalize dif (dif (dif (dif m (2 ^ (b % 12))) (2 ^ (v.1 % 12))) (2 ^ (v.2.1 % 12))) (2 ^ (v.2.2 % 12)) = x at h4 ⊢
  split
  all_goals first | rw [zI_dt (by omega)] | rw [zI_df (by omega)]
theorem c62 (hb : b ≤ 99) (hv : VV v) (hd : 0 ≤ d) (hd2 : d < 12) : ev_c 62 [.int (iI (pk4 b v : Int)), .int (iI d)] h Q = Q (some (.int (zI (dbl b v d)))) h := by
  have hb2 : b ≤ 127 := by omega
  obtain ⟨h1, h2, h3⟩ := id hv
  unfold dbl
  by_cases q0 : (b : Int) % 12 = d <;> by_cases q1 : (v.1 : Int) % 12 = d <;> by_cases q2 : (v.2.1 : Int) % 12 = d <;> by_cases q3 : (v.2.2 : Int) % 12 = d
  all_goals simp (disch := first | exact cat_i _ | exact cat_r _ | exact cat_n | omega) only [e62, u62_0, u62_1, u62_2, u62_3, u62_4, u62_5, u62_6, u62_9, u62_10, u62_11, u62_14, u62_17, u62_18, u62_21, u62_24, u62_27, u62_30, u62_31, u62_32, u62_35, u62_36, u62_39, u62_40, c110_0 hb2 hv, c110_1 hb2 hv, c110_2 hb2 hv, c110_3 hb2 hv, c105, q0, q1, q2, q3, ↓reduceIte, false_and, and_false, false_or, or_false, ite_not, decide_true, decide_false, Bool.true_eq_false, Bool.false_eq_true, decide_eq_true_eq, decide_eq_false_iff_not, hp_I, hp_sI, hp_N, ev_k_s, ev_k_n, true_and, and_true, true_or, or_true, not_true_eq_false, not_false_eq_true, if_true, if_false, ite_self, Option.some.injEq, exists_eq_left', nb_0, nb_1, nb_z, zI_t, zI_f, zI_e, cat_i, cat_r, cat_n, iI_add, iI_sub, iI_mul, iI_neg, iI_lt, iI_le, iI_eq, iI_idx, iI_inT, iI_ne0, ite_false, ite_true, iN_0, iN_1, Int.reduceAdd, Int.reduceSub, Int.reduceMul, Int.reduceNeg, Int.reduceDiv, Int.reduceMod, Int.reduceEq, Int.reduceLT, Int.reduceLE, Int.reduceToNat, Nat.reduceAdd, Nat.reduceSub, Nat.reduceMul, Nat.reduceLT, Nat.reduceLeDiff, Nat.reduceEqDiff, Int.cast_ofNat_Int, Std.le_refl, and_self, Int.toNat_natCast, Int.toNat_zero, Nat.le_refl]
theorem c63i {k j : Nat} {iv : Int} (hb : b ≤ 99) (hv : VV v) (hb' : b' ≤ 99) (hw : VV w) (hi1 : 0 ≤ iv) (hi2 : iv < 12) (hk : k < 4) (hj : j < 4) (hm : nt b v k ≠ nt b' w k) : ev_w 63 28 [.int (iI (pk4 b v : Int)), .int (iI (pk4 b' w : Int)), .int (iI iv), .int (iI (k : Int)), .int (iI (j : Int))] [] h Q = if cnd b v b' w iv k j = true then Q (some (.int (iI (4 * (k : Int) + (j : Int))))) h else ev_w 63 28 [.int (iI (pk4 b v : Int)), .int (iI (pk4 b' w : Int)), .int (iI iv), .int (iI (k : Int)), .int (iI ((j : Int) + 1))] [] h Q := by
  have e1 := nt_le hb hv k
  have e2 := nt_le hb hv j
  have e3 := nt_le hb' hw k
  have e4 := nt_le hb' hw j
  have hb2 : b ≤ 127 := by omega
  have hb3 : b' ≤ 127 := by omega
  rw [u63_28]
  simp (disch := first | exact cat_i _ | exact cat_r _ | exact cat_n | omega) only [u63_30, u63_31, u63_34, u63_35, u63_37, u63_40, u63_41, u63_43, u63_46, u63_49, u63_50, u63_52, u63_55, u63_56, u63_57, u63_60, u63_61, u63_64, u63_65, u63_68, u63_69, u63_71, u63_74, u63_75, u63_76, u63_79, u63_80, u63_83, u63_84, u63_87, u63_88, u63_89, u63_90, u63_92, u63_93, u63_94, u63_97, c110g hb2 hv hk, c110g hb2 hv hj, c110g hb3 hw hk, c110g hb3 hw hj, c105, if_pos, if_neg, ↓reduceIte, false_and, and_false, false_or, or_false, ite_not, decide_true, decide_false, Bool.true_eq_false, Bool.false_eq_true, decide_eq_true_eq, decide_eq_false_iff_not, hp_I, hp_sI, hp_N, ev_k_s, ev_k_n, true_and, and_true, true_or, or_true, not_true_eq_false, not_false_eq_true, if_true, if_false, ite_self, Option.some.injEq, exists_eq_left', nb_0, nb_1, nb_z, zI_t, zI_f, zI_e, cat_i, cat_r, cat_n, iI_add, iI_sub, iI_mul, iI_neg, iI_lt, iI_le, iI_eq, iI_idx, iI_inT, iI_ne0, ite_false, ite_true, iN_0, iN_1, Int.reduceAdd, Int.reduceSub, Int.reduceMul, Int.reduceNeg, Int.reduceDiv, Int.reduceMod, Int.reduceEq, Int.reduceLT, Int.reduceLE, Int.reduceToNat, Nat.reduceAdd, Nat.reduceSub, Nat.reduceMul, Nat.reduceLT, Nat.reduceLeDiff, Nat.reduceEqDiff, Int.cast_ofNat_Int, Std.le_refl, and_self, Int.toNat_natCast, Int.toNat_zero, Nat.le_refl]
  unfold cnd
  simp only [decide_eq_true_eq]
  repeat' split
  all_goals first | rfl | (exfalso; omega)
theorem c63x {iv : Int} {x : Value} {k k2 : Int} (hx : x.category = 1) (h0 : 0 ≤ k) (hk : k < 4) (hk2 : 4 ≤ k2) (hk3 : k2 < 9) : ev_w 63 28 [.int (iI (pk4 b v : Int)), .int (iI (pk4 b' w : Int)), .int (iI iv), .int (iI k), .int (iI k2)] [] h Q = ev_w 63 2 [.int (iI (pk4 b v : Int)), .int (iI (pk4 b' w : Int)), .int (iI iv), .int (iI (k + 1)), .int (iI k2)] [] h Q := by
  simp (disch := first | exact cat_i _ | exact cat_r _ | exact cat_n | omega) only [u63_28, u63_30, u63_31, u63_100, u63_103, if_pos, if_neg, ↓reduceIte, false_and, and_false, false_or, or_false, ite_not, decide_true, decide_false, Bool.true_eq_false, Bool.false_eq_true, decide_eq_true_eq, decide_eq_false_iff_not, hp_I, hp_sI, hp_N, ev_k_s, ev_k_n, true_and, and_true, true_or, or_true, not_true_eq_false, not_false_eq_true, if_true, if_false, ite_self, Option.some.injEq, exists_eq_left', nb_0, nb_1, nb_z, zI_t, zI_f, zI_e, cat_i, cat_r, cat_n, iI_add, iI_sub, iI_mul, iI_neg, iI_lt, iI_le, iI_eq, iI_idx, iI_inT, iI_ne0, ite_false, ite_true, iN_0, iN_1, Int.reduceAdd, Int.reduceSub, Int.reduceMul, Int.reduceNeg, Int.reduceDiv, Int.reduceMod, Int.reduceEq, Int.reduceLT, Int.reduceLE, Int.reduceToNat, Nat.reduceAdd, Nat.reduceSub, Nat.reduceMul, Nat.reduceLT, Nat.reduceLeDiff, Nat.reduceEqDiff, Int.cast_ofNat_Int, Std.le_refl, and_self, Int.toNat_natCast, Int.toNat_zero, Nat.le_refl]
theorem c63h {k : Nat} {iv : Int} {x : Value} (hx : x.category = 1) (hb : b ≤ 99) (hv : VV v) (hb' : b' ≤ 99) (hw : VV w) (hk : k < 3) : ev_w 63 2 [.int (iI (pk4 b v : Int)), .int (iI (pk4 b' w : Int)), .int (iI iv), .int (iI (k : Int)), x] [] h Q = if nt b v k = nt b' w k then ev_w 63 2 [.int (iI (pk4 b v : Int)), .int (iI (pk4 b' w : Int)), .int (iI iv), .int (iI ((k : Int) + 1)), x] [] h Q else ev_w 63 28 [.int (iI (pk4 b v : Int)), .int (iI (pk4 b' w : Int)), .int (iI iv), .int (iI (k : Int)), .int (iI ((k : Int) + 1))] [] h Q := by
  have e1 := nt_le hb hv k
  have e3 := nt_le hb' hw k
  have hb2 : b ≤ 127 := by omega
  have hb3 : b' ≤ 127 := by omega
  rw [u63_2]
  simp (disch := first | exact hx | exact cat_i _ | omega) only [u63_3, u63_4, u63_7, u63_8, u63_9, u63_12, u63_13, u63_14, u63_17, u63_20, u63_23, u63_24, u63_25, u63_26, u63_100, u63_103, c110g hb2 hv (show k < 4 by omega), c110g hb3 hw (show k < 4 by omega), Int.natCast_inj, if_pos, if_neg, ↓reduceIte, false_and, and_false, false_or, or_false, ite_not, decide_true, decide_false, Bool.true_eq_false, Bool.false_eq_true, decide_eq_true_eq, decide_eq_false_iff_not, hp_I, hp_sI, hp_N, ev_k_s, ev_k_n, true_and, and_true, true_or, or_true, not_true_eq_false, not_false_eq_true, if_true, if_false, ite_self, Option.some.injEq, exists_eq_left', nb_0, nb_1, nb_z, zI_t, zI_f, zI_e, cat_i, cat_r, cat_n, iI_add, iI_sub, iI_mul, iI_neg, iI_lt, iI_le, iI_eq, iI_idx, iI_inT, iI_ne0, ite_false, ite_true, iN_0, iN_1, Int.reduceAdd, Int.reduceSub, Int.reduceMul, Int.reduceNeg, Int.reduceDiv, Int.reduceMod, Int.reduceEq, Int.reduceLT, Int.reduceLE, Int.reduceToNat, Nat.reduceAdd, Nat.reduceSub, Nat.reduceMul, Nat.reduceLT, Nat.reduceLeDiff, Nat.reduceEqDiff, Int.cast_ofNat_Int, Std.le_refl, and_self, Int.toNat_natCast, Int.toNat_zero, Nat.le_refl]
theorem cnd_f {iv : Int} {i j : Nat} (e : nt b v i = nt b' w i) : cnd b v b' w iv i j = false := by
  unfold cnd
  rw [decide_eq_false_iff_not]
  exact fun q => q.1 e
theorem c63 {iv : Int} (hb : b ≤ 99) (hv : VV v) (hb' : b' ≤ 99) (hw : VV w) (hi1 : 0 ≤ iv) (hi2 : iv < 12) : ev_c 63 [.int (iI (pk4 b v : Int)), .int (iI (pk4 b' w : Int)), .int (iI iv)] h Q = Q (some (.int (iI (par b v b' w iv)))) h := by
  have p3 : ∀ x : Value, x.category = 1 → ev_w 63 2 [.int (iI (pk4 b v : Int)), .int (iI (pk4 b' w : Int)), .int (iI iv), .int (iI 3), x] [] h Q = Q (some (.int (iI (-6)))) h := fun x hx => by
    simp (disch := first | exact cat_i _ | exact cat_r _ | exact cat_n | omega) only [u63_2, u63_3, u63_4, u63_106, u63_108, if_pos, if_neg, ↓reduceIte, false_and, and_false, false_or, or_false, ite_not, decide_true, decide_false, Bool.true_eq_false, Bool.false_eq_true, decide_eq_true_eq, decide_eq_false_iff_not, hp_I, hp_sI, hp_N, ev_k_s, ev_k_n, true_and, and_true, true_or, or_true, not_true_eq_false, not_false_eq_true, if_true, if_false, ite_self, Option.some.injEq, exists_eq_left', nb_0, nb_1, nb_z, zI_t, zI_f, zI_e, cat_i, cat_r, cat_n, iI_add, iI_sub, iI_mul, iI_neg, iI_lt, iI_le, iI_eq, iI_idx, iI_inT, iI_ne0, ite_false, ite_true, iN_0, iN_1, Int.reduceAdd, Int.reduceSub, Int.reduceMul, Int.reduceNeg, Int.reduceDiv, Int.reduceMod, Int.reduceEq, Int.reduceLT, Int.reduceLE, Int.reduceToNat, Nat.reduceAdd, Nat.reduceSub, Nat.reduceMul, Nat.reduceLT, Nat.reduceLeDiff, Nat.reduceEqDiff, Int.cast_ofNat_Int, Std.le_refl, and_self, Int.toNat_natCast, Int.toNat_zero, Nat.le_refl]
  have p2 : ∀ x : Value, x.category = 1 → ev_w 63 2 [.int (iI (pk4 b v : Int)), .int (iI (pk4 b' w : Int)), .int (iI iv), .int (iI 2), x] [] h Q = if cnd b v b' w iv 2 3 = true then Q (some (.int (iI 11))) h else Q (some (.int (iI (-6)))) h := fun x hx => by
    refine (c63h (k := 2) hx hb hv hb' hw (by omega)).trans ?_
    split
    · rename_i e
      rw [cnd_f e, if_neg (by decide)]
      exact p3 _ hx
    · rename_i e
      refine (c63i (k := 2) (j := 3) hb hv hb' hw hi1 hi2 (by omega) (by omega) e).trans ?_
      split
      · rfl
      · exact (c63x hx (by omega) (by omega) (by omega) (by omega)).trans (p3 _ (cat_i _))
  have p1 : ∀ x : Value, x.category = 1 → ev_w 63 2 [.int (iI (pk4 b v : Int)), .int (iI (pk4 b' w : Int)), .int (iI iv), .int (iI 1), x] [] h Q = if cnd b v b' w iv 1 2 = true then Q (some (.int (iI 6))) h else if cnd b v b' w iv 1 3 = true then Q (some (.int (iI 7))) h else if cnd b v b' w iv 2 3 = true then Q (some (.int (iI 11))) h else Q (some (.int (iI (-6)))) h := fun x hx => by
    refine (c63h (k := 1) hx hb hv hb' hw (by omega)).trans ?_
    split
    · rename_i e
      rw [cnd_f e, if_neg (by decide), cnd_f e, if_neg (by decide)]
      exact p2 _ hx
    · rename_i e
      refine (c63i (k := 1) (j := 2) hb hv hb' hw hi1 hi2 (by omega) (by omega) e).trans ?_
      split
      · rfl
      · refine (c63i (k := 1) (j := 3) hb hv hb' hw hi1 hi2 (by omega) (by omega) e).trans ?_
        split
        · rfl
        · exact (c63x hx (by omega) (by omega) (by omega) (by omega)).trans (p2 _ (cat_i _))
  simp (disch := first | exact cat_i _ | exact cat_r _ | exact cat_n | omega) only [u63_0, u63_1, e63, ↓reduceIte, false_and, and_false, false_or, or_false, ite_not, decide_true, decide_false, Bool.true_eq_false, Bool.false_eq_true, decide_eq_true_eq, decide_eq_false_iff_not, hp_I, hp_sI, hp_N, ev_k_s, ev_k_n, true_and, and_true, true_or, or_true, not_true_eq_false, not_false_eq_true, if_true, if_false, ite_self, Option.some.injEq, exists_eq_left', nb_0, nb_1, nb_z, zI_t, zI_f, zI_e, cat_i, cat_r, cat_n, iI_add, iI_sub, iI_mul, iI_neg, iI_lt, iI_le, iI_eq, iI_idx, iI_inT, iI_ne0, ite_false, ite_true, iN_0, iN_1, Int.reduceAdd, Int.reduceSub, Int.reduceMul, Int.reduceNeg, Int.reduceDiv, Int.reduceMod, Int.reduceEq, Int.reduceLT, Int.reduceLE, Int.reduceToNat, Nat.reduceAdd, Nat.reduceSub, Nat.reduceMul, Nat.reduceLT, Nat.reduceLeDiff, Nat.reduceEqDiff, Int.cast_ofNat_Int, Std.le_refl, and_self, Int.toNat_natCast, Int.toNat_zero, Nat.le_refl]
  refine (c63h (k := 0) (x := .null) rfl hb hv hb' hw (by omega)).trans ?_
  unfold par
  split
  · rename_i e
    rw [cnd_f e, if_neg (by decide), cnd_f e, if_neg (by decide), cnd_f e, if_neg (by decide)]
    refine (p1 _ cat_n).trans ?_
    repeat' split
    all_goals rfl
  · rename_i e
    refine (c63i (k := 0) (j := 1) hb hv hb' hw hi1 hi2 (by omega) (by omega) e).trans ?_
    split
    · rfl
    · refine (c63i (k := 0) (j := 2) hb hv hb' hw hi1 hi2 (by omega) (by omega) e).trans ?_
      split
      · rfl
      · refine (c63i (k := 0) (j := 3) hb hv hb' hw hi1 hi2 (by omega) (by omega) e).trans ?_
        split
        · rfl
        · refine (c63x cat_n (by omega) (by omega) (by omega) (by omega)).trans ((p1 _ (cat_i _)).trans ?_)
          repeat' split
          all_goals rfl
theorem par_in (b : Nat) (v : Nat × Nat × Nat) (b' : Nat) (w : Nat × Nat × Nat) (iv : Int) : -6 ≤ par b v b' w iv ∧ par b v b' w iv ≤ 11 := by
  unfold par
  repeat' split
  all_goals omega
theorem c64 (hb : b ≤ 99) (hv : VV v) (hb' : b' ≤ 99) (hw : VV w) (hn : n ≤ 100) : ev_c 64 [.int (iI (pk4 b v : Int)), .int (iI (pk4 b' w : Int)), .int (iI (n : Int))] h Q = Q (some (.int (zI (lps v w n)))) h := by
  have hb2 : b ≤ 127 := by omega
  have hb3 : b' ≤ 127 := by omega
  obtain ⟨h1, h2, h3⟩ := id hv
  obtain ⟨h4, h5, h6⟩ := id hw
  simp (disch := first | exact cat_i _ | exact cat_r _ | exact cat_n | omega) only [e64, u64_0, u64_1, u64_2, u64_3, u64_4, u64_7, u64_8, u64_9, u64_12, u64_13, u64_14, u64_17, u64_18, u64_21, u64_22, u64_25, u64_26, u64_27, u64_30, u64_33, u64_34, c110_1 hb2 hv, c110_2 hb2 hv, c110_3 hb2 hv, c110_1 hb3 hw, c110_2 hb3 hw, c110_3 hb3 hw, c186, ↓reduceIte, false_and, and_false, false_or, or_false, ite_not, decide_true, decide_false, Bool.true_eq_false, Bool.false_eq_true, decide_eq_true_eq, decide_eq_false_iff_not, hp_I, hp_sI, hp_N, ev_k_s, ev_k_n, true_and, and_true, true_or, or_true, not_true_eq_false, not_false_eq_true, if_true, if_false, ite_self, Option.some.injEq, exists_eq_left', nb_0, nb_1, nb_z, zI_t, zI_f, zI_e, cat_i, cat_r, cat_n, iI_add, iI_sub, iI_mul, iI_neg, iI_lt, iI_le, iI_eq, iI_idx, iI_inT, iI_ne0, ite_false, ite_true, iN_0, iN_1, Int.reduceAdd, Int.reduceSub, Int.reduceMul, Int.reduceNeg, Int.reduceDiv, Int.reduceMod, Int.reduceEq, Int.reduceLT, Int.reduceLE, Int.reduceToNat, Nat.reduceAdd, Nat.reduceSub, Nat.reduceMul, Nat.reduceLT, Nat.reduceLeDiff, Nat.reduceEqDiff, Int.cast_ofNat_Int, Std.le_refl, and_self, Int.toNat_natCast, Int.toNat_zero, Nat.le_refl]
  unfold lps
  repeat' split
  all_goals first | rw [zI_dt (by omega)] | rw [zI_df (by omega)]
theorem c65 (hb : b ≤ 99) (hv : VV v) (hb' : b' ≤ 99) (hw : VV w) (hd : 0 ≤ d) (hd2 : d < 12) : ev_c 65 [.int (iI (pk4 b v : Int)), .int (iI (pk4 b' w : Int)), .int (iI d)] h Q = Q (some (.int (zI (hbk v w d)))) h := by
  have hb2 : b ≤ 127 := by omega
  have hb3 : b' ≤ 127 := by omega
  obtain ⟨h1, h2, h3⟩ := id hv
  obtain ⟨h4, h5, h6⟩ := id hw
  unfold hbk
  by_cases q1 : (v.1 : Int) % 12 = d <;> by_cases q2 : (v.2.1 : Int) % 12 = d <;> by_cases q3 : (v.2.2 : Int) % 12 = d
  all_goals simp (disch := first | exact cat_i _ | exact cat_r _ | exact cat_n | omega) only [e65, u65_0, u65_1, u65_2, u65_3, u65_4, u65_7, u65_8, u65_9, u65_12, u65_14, u65_16, u65_19, u65_20, u65_23, u65_24, u65_25, u65_28, u65_30, u65_31, u65_32, u65_35, u65_36, u65_37, u65_40, u65_43, u65_44, c110_1 hb2 hv, c110_2 hb2 hv, c110_3 hb2 hv, c110_1 hb3 hw, c110_2 hb3 hw, c110_3 hb3 hw, c105, q1, q2, q3, ↓reduceIte, false_and, and_false, false_or, or_false, ite_not, decide_true, decide_false, Bool.true_eq_false, Bool.false_eq_true, decide_eq_true_eq, decide_eq_false_iff_not, hp_I, hp_sI, hp_N, ev_k_s, ev_k_n, true_and, and_true, true_or, or_true, not_true_eq_false, not_false_eq_true, if_true, if_false, ite_self, Option.some.injEq, exists_eq_left', nb_0, nb_1, nb_z, zI_t, zI_f, zI_e, cat_i, cat_r, cat_n, iI_add, iI_sub, iI_mul, iI_neg, iI_lt, iI_le, iI_eq, iI_idx, iI_inT, iI_ne0, ite_false, ite_true, iN_0, iN_1, Int.reduceAdd, Int.reduceSub, Int.reduceMul, Int.reduceNeg, Int.reduceDiv, Int.reduceMod, Int.reduceEq, Int.reduceLT, Int.reduceLE, Int.reduceToNat, Nat.reduceAdd, Nat.reduceSub, Nat.reduceMul, Nat.reduceLT, Nat.reduceLeDiff, Nat.reduceEqDiff, Int.cast_ofNat_Int, Std.le_refl, and_self, Int.toNat_natCast, Int.toNat_zero, Nat.le_refl]
  all_goals repeat' split
  all_goals first | rw [zI_dt (by omega)] | rw [zI_df (by omega)]
end RU
