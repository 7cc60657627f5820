section MU
variable {L : Nat} {σ : Nat → Nat} {I J : Nat → Nat → Int32} {Q : Option Value → fb_H → Prop} {h : fb_H} {x y z iv : Int} {S : Co} {n m a o b b' : Nat} {v w : Nat × Nat × Nat}
theorem c126 (hr : RepS I 103 0 S) (hVS : VS S) (hn : n < S.2.length) (h2 : R4 I 109 b v) (hb : b ≤ 99) (hv : VV v) : ev_c 126 [.ref 102, .int (iI (n : Int))] (hp L σ I) Q = Q (some (.int (iI ((own S.1.1 S.1.2.1 b v (tn S n) : Nat) : Int)))) (hp L σ I) := by
  have hm : tn S n < 4096 := tns_lt _ _ _
  have e125 := fun Q => c125 (L := L) (σ := σ) (Q := Q) hr hVS hn
  rw [e126, c126a h2 hb hv, c126b h2 hb hv, c126c hr hVS h2 hb hv]
  have n0 : nt b v 0 = b := rfl
  have n1 : nt b v 1 = v.1 := rfl
  have n2 : nt b v 2 = v.2.1 := rfl
  have n3 : nt b v 3 = v.2.2 := rfl
  have hp12 : ∀ g : Nat, 2 ^ (g % 12) < 4096 := fun g => Nat.pow_lt_pow_right (n := 12) (a := 2) (by omega) (by omega)
  have o1 : ∀ (u g : Nat), u < 4096 → u ||| 2 ^ (g % 12) < 4096 := fun u g hu => Nat.or_lt_two_pow (n := 12) hu (hp12 g)
  have bo : ∀ k, oth (tn S n) b v k ≤ 1 := fun k => by unfold oth; split <;> omega
  have bl : ∀ k, lds (((S.1.1 : Int) + 11) % 12) b v k ≤ 1 := fun k => by unfold lds; split <;> omega
  have bo0 := bo 0
  have bo1 := bo 1
  have bo2 := bo 2
  have bo3 := bo 3
  have bl0 := bl 0
  have bl1 := bl 1
  have bl2 := bl 2
  have bl3 := bl 3
  have u0 := o1 0 (nt b v 0) (by omega)
  have u1 := o1 _ (nt b v 1) u0
  have u2 := o1 _ (nt b v 2) u1
  have t0 := fun a2 a3 a4 => c126i (L := L) (σ := σ) (Q := Q) (n := n) (a2 := a2) (a3 := a3) (a4 := a4) (k := 0) (u := 0) (e := 0) (f := 0) (x := .null) rfl hr hVS h2 hb hv hm (by omega) (by omega) (by omega) (by omega)
  have t1 := fun a2 a3 a4 => c126i (L := L) (σ := σ) (Q := Q) (n := n) (a2 := a2) (a3 := a3) (a4 := a4) (k := 1) (e := 0 + oth (tn S n) b v 0) (f := 0 + lds (((S.1.1 : Int) + 11) % 12) b v 0) (cat_i (iI ((nt b v 0 : Int) % 12))) hr hVS h2 hb hv hm (by omega) u0 (by omega) (by omega)
  have t2 := fun a2 a3 a4 => c126i (L := L) (σ := σ) (Q := Q) (n := n) (a2 := a2) (a3 := a3) (a4 := a4) (k := 2) (e := 0 + oth (tn S n) b v 0 + oth (tn S n) b v 1) (f := 0 + lds (((S.1.1 : Int) + 11) % 12) b v 0 + lds (((S.1.1 : Int) + 11) % 12) b v 1) (cat_i (iI ((nt b v 1 : Int) % 12))) hr hVS h2 hb hv hm (by omega) u1 (by omega) (by omega)
  have t3 := fun a2 a3 a4 => c126i (L := L) (σ := σ) (Q := Q) (n := n) (a2 := a2) (a3 := a3) (a4 := a4) (k := 3) (e := 0 + oth (tn S n) b v 0 + oth (tn S n) b v 1 + oth (tn S n) b v 2) (f := 0 + lds (((S.1.1 : Int) + 11) % 12) b v 0 + lds (((S.1.1 : Int) + 11) % 12) b v 1 + lds (((S.1.1 : Int) + 11) % 12) b v 2) (cat_i (iI ((nt b v 2 : Int) % 12))) hr hVS h2 hb hv hm (by omega) u2 (by omega) (by omega)
  have tt := fun a2 a3 a4 => (t0 a2 a3 a4).trans ((t1 a2 a3 a4).trans ((t2 a2 a3 a4).trans (t3 a2 a3 a4)))
  clear t0 t1 t2 t3
  have te := fun o c w => c126e (h := hp L σ I) (Q := Q) (n := n) (o := o) (c := c) (w := w) (m := tn S n) (u := 0 ||| 2 ^ (nt b v 0 % 12) ||| 2 ^ (nt b v 1 % 12) ||| 2 ^ (nt b v 2 % 12) ||| 2 ^ (nt b v 3 % 12)) (e := 0 + oth (tn S n) b v 0 + oth (tn S n) b v 1 + oth (tn S n) b v 2 + oth (tn S n) b v 3) (f := 0 + lds (((S.1.1 : Int) + 11) % 12) b v 0 + lds (((S.1.1 : Int) + 11) % 12) b v 1 + lds (((S.1.1 : Int) + 11) % 12) b v 2 + lds (((S.1.1 : Int) + 11) % 12) b v 3) (x := .int (iI 4)) (y := .int (iI ((nt b v 3 : Int) % 12))) (cat_i _) (cat_i _) (by omega) (by omega) hm
  generalize he : 0 + oth (tn S n) b v 0 + oth (tn S n) b v 1 + oth (tn S n) b v 2 + oth (tn S n) b v 3 = e at tt te
  generalize hf : 0 + lds (((S.1.1 : Int) + 11) % 12) b v 0 + lds (((S.1.1 : Int) + 11) % 12) b v 1 + lds (((S.1.1 : Int) + 11) % 12) b v 2 + lds (((S.1.1 : Int) + 11) % 12) b v 3 = f at tt te
  generalize hu : 0 ||| 2 ^ (nt b v 0 % 12) ||| 2 ^ (nt b v 1 % 12) ||| 2 ^ (nt b v 2 % 12) ||| 2 ^ (nt b v 3 % 12) = u at tt te
  generalize ho : (!decide ((48 ≤ (v.1 : Int) ∧ (v.1 : Int) ≤ 67) ∧ (53 ≤ (v.2.1 : Int) ∧ (v.2.1 : Int) ≤ 74) ∧ (58 ≤ (v.2.2 : Int) ∧ (v.2.2 : Int) ≤ 79))) = oo
  generalize hc : decide (v.1 ≤ b ∨ v.2.1 ≤ v.1 ∨ v.2.2 ≤ v.2.1) = cc
  have hoop : (oo || cc) = oop b v := by
    rw [← ho, ← hc, ← decide_not, ← Bool.decide_or]
    unfold oop
    exact decide_eq_decide.mpr (by omega)
  have hstg : (0 < e) = (stg v (tn S n) = true) := by
    rw [← he]
    unfold oth stg
    rw [n1, n2, n3]
    cases (tn S n).testBit (v.1 % 12) <;> cases (tn S n).testBit (v.2.1 % 12) <;> cases (tn S n).testBit (v.2.2 % 12) <;> simp
  have hlck : (dif (tn S n) u ≠ 0) = (lck b v (tn S n) = true) := by
    rw [← hu]
    unfold lck
    rw [decide_eq_true_eq, dif_dif, dif_dif, dif_dif, n0, n1, n2, n3, Nat.zero_or, Nat.or_assoc, Nat.or_assoc]
  have hdbl : (1 < f) = (dbl b v (((S.1.1 : Int) + 11) % 12) = true) := by
    rw [← hf]
    unfold lds dbl
    rw [n0, n1, n2, n3, decide_eq_true_eq, Nat.zero_add]
  have hres := te oo cc (wid v S.1.2.1)
  have hown : (if (oo || cc) = true then 1 else 0) + (if wid v S.1.2.1 = true then 2 else 0) + (if 0 < e then 4 else 0) + (if dif (tn S n) u ≠ 0 then 8 else 0) + (if 1 < f then 16 else 0) = own S.1.1 S.1.2.1 b v (tn S n) := by
    unfold own
    rw [hoop]
    simp only [hstg, hlck, hdbl]
  rw [hown] at hres
  have tt2 := tt (zI oo) (zI cc) (zI (wid v S.1.2.1))
  clear tt te
  simp (disch := first | exact cat_i _ | exact cat_r _ | exact cat_n | omega) only [u126_171, u126_172, u126_173, u126_176, u126_178, u126_179, u126_181, u126_182, u126_184, u126_185, u126_187, u126_188, hT_102, e125, if_pos, if_neg, ↓reduceIte, false_and, and_false, false_or, or_false, ite_not, decide_true, decide_false, Bool.true_eq_false, Bool.false_eq_true, decide_eq_true_eq, decide_eq_false_iff_not, hp_I, hp_sI, hp_N, ev_k_s, ev_k_n, true_and, and_true, true_or, or_true, not_true_eq_false, not_false_eq_true, if_true, if_false, ite_self, Option.some.injEq, exists_eq_left', nb_0, nb_1, nb_z, zI_t, zI_f, zI_e, cat_i, cat_r, cat_n, iI_add, iI_sub, iI_mul, iI_neg, iI_lt, iI_le, iI_eq, iI_idx, iI_inT, iI_ne0, ite_false, ite_true, iN_0, iN_1, Int.reduceAdd, Int.reduceSub, Int.reduceMul, Int.reduceNeg, Int.reduceDiv, Int.reduceMod, Int.reduceEq, Int.reduceLT, Int.reduceLE, Int.reduceToNat, Nat.reduceAdd, Nat.reduceSub, Nat.reduceMul, Nat.reduceLT, Nat.reduceLeDiff, Nat.reduceEqDiff, Int.cast_ofNat_Int, Std.le_refl, and_self, Int.toNat_natCast, Int.toNat_zero, Nat.le_refl]
  refine Eq.trans tt2 ?_
  refine Eq.trans ?_ hres
  simp (disch := first | exact cat_i _ | exact cat_r _ | exact cat_n | omega) only [u126_190, u126_192, u126_193, if_pos, if_neg, ↓reduceIte, false_and, and_false, false_or, or_false, ite_not, decide_true, decide_false, Bool.true_eq_false, Bool.false_eq_true, decide_eq_true_eq, decide_eq_false_iff_not, hp_I, hp_sI, hp_N, ev_k_s, ev_k_n, true_and, and_true, true_or, or_true, not_true_eq_false, not_false_eq_true, if_true, if_false, ite_self, Option.some.injEq, exists_eq_left', nb_0, nb_1, nb_z, zI_t, zI_f, zI_e, cat_i, cat_r, cat_n, iI_add, iI_sub, iI_mul, iI_neg, iI_lt, iI_le, iI_eq, iI_idx, iI_inT, iI_ne0, ite_false, ite_true, iN_0, iN_1, Int.reduceAdd, Int.reduceSub, Int.reduceMul, Int.reduceNeg, Int.reduceDiv, Int.reduceMod, Int.reduceEq, Int.reduceLT, Int.reduceLE, Int.reduceToNat, Nat.reduceAdd, Nat.reduceSub, Nat.reduceMul, Nat.reduceLT, Nat.reduceLeDiff, Nat.reduceEqDiff, Int.cast_ofNat_Int, Std.le_refl, and_self, Int.toNat_natCast, Int.toNat_zero, Nat.le_refl]
/-- parallels -/
theorem c128s {lo hi : Nat} {X : Prop} (h1 : R4 I 108 b v) (h2 : R4 I 109 b' w) (hb : b ≤ 99) (hv : VV v) (hb' : b' ≤ 99) (hw : VV w) (hi1 : 0 ≤ iv) (hi2 : iv < 12) (hlo : lo < 4) (hhi : hi < 4) (hX : ∀ x3 x4 x5 : Value, x3.category = 1 → x4.category = 1 → x5.category = 1 → ev_w 128 2 [.ref 102, .int (iI iv), .int (iI ((4 * lo + hi + 1 : Nat) : Int)), x3, x4, x5] [] (hp L σ I) Q = X) : ∀ x3 x4 x5 : Value, x3.category = 1 → x4.category = 1 → x5.category = 1 → ev_w 128 2 [.ref 102, .int (iI iv), .int (iI ((4 * lo + hi : Nat) : Int)), x3, x4, x5] [] (hp L σ I) Q = if lo < hi ∧ cnd b v b' w iv lo hi = true then Q (some (.int (iI ((4 * lo + hi : Nat) : Int)))) (hp L σ I) else X := by
  intro x3 x4 x5 hx3 hx4 hx5
  have k1 := R4_k h1 hlo
  have k2 := R4_k h2 hlo
  have k3 := R4_k h1 hhi
  have k4 := R4_k h2 hhi
  have g1 := nt_le hb hv lo
  have g2 := nt_le hb' hw lo
  have g3 := nt_le hb hv hi
  have g4 := nt_le hb' hw hi
  have e1 : ((4 * lo + hi : Nat) : Int) / 4 = (lo : Int) := by omega
  have e2 : ((4 * lo + hi : Nat) : Int) % 4 = (hi : Int) := by omega
  have e3 : ((4 * lo + hi : Nat) : Int) + 1 = ((4 * lo + hi + 1 : Nat) : Int) := by omega
  unfold cnd
  generalize nt b v lo = p1 at k1 g1 ⊢
  generalize nt b' w lo = p2 at k2 g2 ⊢
  generalize nt b v hi = p3 at k3 g3 ⊢
  generalize nt b' w hi = p4 at k4 g4 ⊢
  have f1 := fun Q h => c127 (Q := Q) (h := h) g1 g3
  have f2 := fun Q h => c127 (Q := Q) (h := h) g2 g4
  rw [u128_2]
  by_cases r1 : p1 = p2 <;> by_cases r2 : p3 = p4
  all_goals
    simp (disch := first | exact hx3 | exact hx4 | exact hx5 | exact cat_i _ | exact cat_r _ | omega) only [u128_3, u128_5, u128_8, u128_9, u128_10, u128_11, u128_12, u128_13, u128_14, u128_15, u128_17, u128_18, u128_21, u128_22, u128_23, u128_24, u128_27, u128_28, u128_29, u128_32, u128_33, u128_36, u128_38, u128_39, u128_40, u128_43, u128_45, u128_46, u128_49, u128_50, u128_53, u128_54, u128_56, u128_57, u128_59, u128_62, u128_64, u128_67, u128_68, u128_71, u128_72, u128_73, u128_74, u128_77, u128_79, u128_80, u128_83, u128_84, u128_87, u128_88, u128_91, u128_92, u128_93, u128_94, u128_97, u128_99, u128_100, u128_103, u128_104, u128_107, u128_108, u128_109, u128_112, hT_102, hT_108, hT_109, hR_102_7, hR_102_8, iI_div, iI_rem, e1, e2, e3, k1, k2, k3, k4, f1, f2, hX, Int.natCast_inj, r1, r2, ↓reduceIte, false_and, and_false, false_or, or_false, ite_not, decide_true, decide_false, Bool.true_eq_false, Bool.false_eq_true, decide_eq_true_eq, decide_eq_false_iff_not, hp_I, hp_sI, hp_N, ev_k_s, ev_k_n, true_and, and_true, true_or, or_true, not_true_eq_false, not_false_eq_true, if_true, if_false, ite_self, Option.some.injEq, exists_eq_left', nb_0, nb_1, nb_z, zI_t, zI_f, zI_e, cat_i, cat_r, cat_n, iI_add, iI_sub, iI_mul, iI_neg, iI_lt, iI_le, iI_eq, iI_idx, iI_inT, iI_ne0, ite_false, ite_true, iN_0, iN_1, Int.reduceAdd, Int.reduceSub, Int.reduceMul, Int.reduceNeg, Int.reduceDiv, Int.reduceMod, Int.reduceEq, Int.reduceLT, Int.reduceLE, Int.reduceToNat, Nat.reduceAdd, Nat.reduceSub, Nat.reduceMul, Nat.reduceLT, Nat.reduceLeDiff, Nat.reduceEqDiff, Int.cast_ofNat_Int, Std.le_refl, and_self, Int.toNat_natCast, Int.toNat_zero, Nat.le_refl]
    repeat' split
    all_goals first | rfl | (exfalso; omega)
end MU
