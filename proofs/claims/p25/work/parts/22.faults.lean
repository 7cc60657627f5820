theorem iI_ol {a b : Int} (h1 : 0 ≤ a) (h2 : 0 ≤ b) : iI a ||| iI b = iI ((a.toNat ||| b.toNat : Nat) : Int) := by
  obtain ⟨m, rfl⟩ := Int.eq_ofNat_of_zero_le h1
  obtain ⟨n, rfl⟩ := Int.eq_ofNat_of_zero_le h2
  exact iI_or m n
theorem iI_on {a b n : Nat} (h1 : a < 2 ^ n) : iI (a : Int) ||| iI ((2 ^ n * b : Nat) : Int) = iI ((a + 2 ^ n * b : Nat) : Int) := by
  rw [iI_or]
  congr 2
  exact (Nat.or_comm a _).trans ((Nat.two_pow_add_eq_or_of_lt h1 b).symm.trans (Nat.add_comm _ _))
section FA
variable {Q : Option Value → fb_H → Prop} {c d : Int} {n m b b' : Nat} {v w : Nat × Nat × Nat} {L t : Nat} {σ : Nat → Nat} {I : Nat → Nat → Int32} {S : Co}
def own (key span b : Nat) (v : Nat × Nat × Nat) (m : Nat) : Nat := (if oop b v then 1 else 0) + (if wid v span then 2 else 0) + (if stg v m then 4 else 0) + (if lck b v m then 8 else 0) + (if dbl b v (((key : Int) + 11) % 12) then 16 else 0)
theorem c56 (ht : isp t) (hr : RepP I t S) (hv : VS S) (hs : StI I) (hb : b ≤ 99) (hw : VV v) (hm : m < 4096) : ev_c 56 [.ref t, .int (iI (pk4 b v : Int)), .int (iI (m : Int))] (hp L σ I) Q = Q (some (.int (iI (own S.1.1 S.1.2.1 b v m : Int)))) (hp L σ I) := by
  have hk := hv.1
  have hsp := hv.2.1.2
  cases q1 : oop b v <;> cases q2 : wid v S.1.2.1 <;> cases q3 : stg v m <;> cases q4 : lck b v m <;> cases q5 : dbl b v (((S.1.1 : Int) + 11) % 12)
  all_goals simp (disch := first | exact cat_i _ | exact cat_r _ | exact cat_n | omega) only [e56, u56_0, u56_1, u56_2, u56_3, u56_6, u56_9, u56_10, u56_11, u56_12, u56_13, u56_14, u56_15, u56_16, u56_19, u56_22, u56_25, u56_26, u56_27, u56_28, u56_29, u56_30, u56_31, u56_34, u56_37, u56_38, u56_39, u56_40, u56_41, u56_42, u56_43, u56_46, u56_49, u56_50, u56_52, u56_53, u56_54, u56_55, u56_56, u56_59, u56_62, u56_65, u56_66, u56_68, u56_69, u56_70, u56_71, hT_p ht, c27_1 ht hr, c35 ht hr hv hs, c58 hs hb hw, c59 hb hw, c60 hb hw, c61 hb hw, c62 hb hw, q1, q2, q3, q4, q5, iI_ol, Nat.reduceOr, own, ↓reduceIte, false_and, and_false, false_or, or_false, ite_not, decide_true, decide_false, Bool.true_eq_false, Bool.false_eq_true, decide_eq_true_eq, decide_eq_false_iff_not, hp_I, hp_sI, hp_N, ev_k_s, ev_k_n, true_and, and_true, true_or, or_true, not_true_eq_false, not_false_eq_true, if_true, if_false, ite_self, Option.some.injEq, exists_eq_left', nb_0, nb_1, nb_z, zI_t, zI_f, zI_e, cat_i, cat_r, cat_n, iI_add, iI_sub, iI_mul, iI_neg, iI_lt, iI_le, iI_eq, iI_idx, iI_inT, iI_ne0, ite_false, ite_true, iN_0, iN_1, Int.reduceAdd, Int.reduceSub, Int.reduceMul, Int.reduceNeg, Int.reduceDiv, Int.reduceMod, Int.reduceEq, Int.reduceLT, Int.reduceLE, Int.reduceToNat, Nat.reduceAdd, Nat.reduceSub, Nat.reduceMul, Nat.reduceLT, Nat.reduceLeDiff, Nat.reduceEqDiff, Int.cast_ofNat_Int, Std.le_refl, and_self, Int.toNat_natCast, Int.toNat_zero, Nat.le_refl]
def bhd (key leap b : Nat) (v : Nat × Nat × Nat) (b' : Nat) (w : Nat × Nat × Nat) (m : Nat) : Nat := (if par b v b' w 7 = -6 then 0 else 32) + (if par b v b' w 0 = -6 then 0 else 64) + (if lps v w leap then 128 else 0) + (if m.testBit key = true ∧ hbk v w (((key : Int) + 11) % 12) = true then 256 else 0)
theorem c57 (ht : isp t) (hr : RepP I t S) (hv : VS S) (hs : StI I) (hb : b ≤ 99) (hw : VV v) (hb' : b' ≤ 99) (hw' : VV w) (hm : m < 4096) : ev_c 57 [.ref t, .int (iI (pk4 b v : Int)), .int (iI (pk4 b' w : Int)), .int (iI (m : Int))] (hp L σ I) Q = Q (some (.int (iI (bhd S.1.1 S.1.2.2 b v b' w m : Int)))) (hp L σ I) := by
  have hk := hv.1
  have hsp := hv.2.2.1.2
  have hp7 := par_in b v b' w 7
  have hp0 := par_in b v b' w 0
  have g1 := hp7.1
  have g2 := hp7.2
  have g3 := hp0.1
  have g4 := hp0.2
  by_cases q1 : par b v b' w 7 = -6 <;> by_cases q2 : par b v b' w 0 = -6 <;> cases q3 : lps v w S.1.2.2 <;> cases q4 : m.testBit S.1.1 <;> cases q5 : hbk v w (((S.1.1 : Int) + 11) % 12)
  all_goals simp (disch := first | exact cat_i _ | exact cat_r _ | exact cat_n | omega) only [e57, u57_0, u57_1, u57_3, u57_4, u57_5, u57_7, u57_10, u57_12, u57_15, u57_17, u57_19, u57_20, u57_22, u57_23, u57_24, u57_25, u57_28, u57_30, u57_33, u57_35, u57_37, u57_38, u57_40, u57_41, u57_42, u57_43, u57_44, u57_47, u57_50, u57_53, u57_55, u57_58, u57_59, u57_61, u57_62, u57_63, u57_64, u57_67, u57_70, u57_73, u57_74, u57_75, u57_76, u57_79, u57_82, u57_85, u57_87, u57_90, u57_91, u57_93, u57_95, hT_p ht, c27_2 ht hr, c27_0 ht hr, c35 ht hr hv hs, c63 hb hw hb' hw', c64 hb hw hb' hw', c65 hb hw hb' hw', c106, q1, q2, q3, q4, q5, iI_ol, Nat.reduceOr, bhd, ↓reduceIte, false_and, and_false, false_or, or_false, ite_not, decide_true, decide_false, Bool.true_eq_false, Bool.false_eq_true, decide_eq_true_eq, decide_eq_false_iff_not, hp_I, hp_sI, hp_N, ev_k_s, ev_k_n, true_and, and_true, true_or, or_true, not_true_eq_false, not_false_eq_true, if_true, if_false, ite_self, Option.some.injEq, exists_eq_left', nb_0, nb_1, nb_z, zI_t, zI_f, zI_e, cat_i, cat_r, cat_n, iI_add, iI_sub, iI_mul, iI_neg, iI_lt, iI_le, iI_eq, iI_idx, iI_inT, iI_ne0, ite_false, ite_true, iN_0, iN_1, Int.reduceAdd, Int.reduceSub, Int.reduceMul, Int.reduceNeg, Int.reduceDiv, Int.reduceMod, Int.reduceEq, Int.reduceLT, Int.reduceLE, Int.reduceToNat, Nat.reduceAdd, Nat.reduceSub, Nat.reduceMul, Nat.reduceLT, Nat.reduceLeDiff, Nat.reduceEqDiff, Int.cast_ofNat_Int, Std.le_refl, and_self, Int.toNat_natCast, Int.toNat_zero, Nat.le_refl]
end FA
