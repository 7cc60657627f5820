/-! the law's loop -/
def LI (L : Nat) (xs : Nat → Int32) (σ : Nat → Nat) (I : Nat → Nat → Int32) (A : AS) : Prop := RepX σ I A ∧ RepM I A ∧ StI I ∧ ∀ q, q < L → I 1000006 q = xs q
section LW
variable {L : Nat} {σ : Nat → Nat} {I J K : Nat → Nat → Int32} {xs : Nat → Int32} {Q : Option Value → fb_H → Prop} {A : AS} {y y' n : Nat} {as as' : List Value} {r : Int × AS}
theorem both (hX : XR L σ I y as r) (hM' : ∀ τ J, RepM J A → MR L τ J y' as' r) (hM : RepM I A) (hs : StI I) : ∃ τ J K, (∀ Q : Option Value → fb_H → Prop, ev_c y as (hp L σ I) Q = Q (some (.int (iI r.1))) (hp L τ J)) ∧ (∀ Q : Option Value → fb_H → Prop, ev_c y' as' (hp L τ J) Q = Q (some (.int (iI r.1))) (hp L τ K)) ∧ RepX τ K r.2 ∧ RepM K r.2 ∧ StI K ∧ (∀ q, J 1000006 q = I 1000006 q) ∧ ∀ q, K 1000006 q = I 1000006 q := by
  obtain ⟨τ, J, j1, j2, j3⟩ := hX
  obtain ⟨K, k1, k2, k3⟩ := hM' τ J (RepM_o hM fun i q a b => j3 i q a)
  exact ⟨τ, J, K, j1, k1, RepX_o j2 fun i q a => k3 i q (by omega), k2, StI_o hs fun i q a => (k3 i q (by omega)).trans (j3 i q (by omega)), fun q => j3 _ _ (by omega), fun q => (k3 _ _ (by omega)).trans (j3 _ _ (by omega))⟩
theorem i31 (x : Int32) : ∃ c : Nat, c < 32 ∧ x &&& iI 31 = iI (c : Int) := by
  refine ⟨x.toBitVec.toNat % 32, Nat.mod_lt _ (by omega), ?_⟩
  rw [iI_nI, show iI 31 = Int32.ofNat (2 ^ 5 - 1) from by decide +kernel]
  apply Int32.toBitVec_inj.mp
  show x.toBitVec &&& BitVec.ofNat 32 (2 ^ 5 - 1) = BitVec.ofNat 32 (x.toBitVec.toNat % 2 ^ 5)
  apply BitVec.eq_of_getLsbD_eq
  intro i hi
  rw [BitVec.getLsbD_and, BitVec.getLsbD_ofNat, BitVec.getLsbD_ofNat, Nat.testBit_two_pow_sub_one, Nat.testBit_mod_two_pow, BitVec.testBit_toNat]
  simp [hi]
  exact Bool.and_comm _ _
/-- a turn of the law -/
def LT (L : Nat) (xs : Nat → Int32) (σ : Nat → Nat) (I : Nat → Nat → Int32) (n : Nat) : Prop := ∃ τ K B, LI L xs τ K B ∧ ∀ Q : Option Value → fb_H → Prop, ev_w 188 18 [.ref 1000006, .ref 0, .ref 102, .int (iI (n : Int))] [] (hp L σ I) Q = ev_w 188 18 [.ref 1000006, .ref 0, .ref 102, .int (iI ((n + 5 : Nat) : Int))] [] (hp L τ K) Q
theorem L0 (h : LI L xs σ I A) (hL : L ≤ 2560) (hn : n + 5 ≤ L) (h31 : I 1000006 n &&& iI 31 = iI 0) : LT L xs σ I n := by
  obtain ⟨hX, hM, hs, hx⟩ := h
  have hA := RepX_AV hX
  obtain ⟨a1, p1, q1, g1⟩ := iI_of (I 1000006 (n + 1))
  obtain ⟨a2, p2, q2, g2⟩ := iI_of (I 1000006 (n + 2))
  obtain ⟨τ, J, K, e1, e2, b1, b2, b3, b4, b5⟩ := both (x79 (L := L) hX hs p1 q1 p2 q2) (fun τ J h => m149 (L := L) (σ := τ) h hA p1 q1 p2 q2) hM hs
  refine ⟨τ, K, _, ⟨b1, b2, b3, fun q hq => (b5 q).trans (hx q hq)⟩, fun Q => ?_⟩
  clear b1 b2 b3 b5
  have f1 : ((n : Int) + 1).toNat = n + 1 := by omega
  have k1 := b4 (n + 1)
  have f2 : ((n : Int) + 2).toNat = n + 2 := by omega
  have k2 := b4 (n + 2)
  rw [g1] at k1
  rw [g2] at k2
  rw [u188_18]
  simp (disch := first | exact cat_i _ | exact cat_r _ | exact cat_n | omega) only [u188_19, u188_20, u188_21, u188_22, u188_23, u188_26, u188_27, u188_28, u188_29, u188_31, u188_136, u188_137, u188_138, u188_139, u188_140, u188_141, u188_142, u188_143, u188_144, u188_145, u188_146, u188_147, u188_150, u188_151, u188_152, u188_153, u188_154, u188_155, u188_156, u188_157, u188_158, u188_159, u188_160, u188_161, u188_164, u188_167, u188_168, u188_742, u188_745, u188_32_0, hT_0, hT_102, hT_1000006, h31, f1, k1, g1, f2, k2, g2, e1, e2, if_pos, if_neg, ↓reduceIte, false_and, and_false, false_or, or_false, ite_not, decide_true, decide_false, Bool.true_eq_false, Bool.false_eq_true, decide_eq_true_eq, decide_eq_false_iff_not, hp_I, hp_sI, hp_N, ev_k_s, ev_k_n, true_and, and_true, true_or, or_true, not_true_eq_false, not_false_eq_true, if_true, if_false, ite_self, Option.some.injEq, exists_eq_left', nb_0, nb_1, nb_z, zI_t, zI_f, zI_e, cat_i, cat_r, cat_n, iI_add, iI_sub, iI_mul, iI_neg, iI_lt, iI_le, iI_eq, iI_idx, iI_inT, iI_ne0, ite_false, ite_true, iN_0, iN_1, Int.reduceAdd, Int.reduceSub, Int.reduceMul, Int.reduceNeg, Int.reduceDiv, Int.reduceMod, Int.reduceEq, Int.reduceLT, Int.reduceLE, Int.reduceToNat, Nat.reduceAdd, Nat.reduceSub, Nat.reduceMul, Nat.reduceLT, Nat.reduceLeDiff, Nat.reduceEqDiff, Int.cast_ofNat_Int, Std.le_refl, and_self, Int.toNat_natCast, Int.toNat_zero, Nat.le_refl]
  all_goals rfl
theorem L1 (h : LI L xs σ I A) (hL : L ≤ 2560) (hn : n + 5 ≤ L) (h31 : I 1000006 n &&& iI 31 = iI 1) : LT L xs σ I n := by
  obtain ⟨hX, hM, hs, hx⟩ := h
  have hA := RepX_AV hX
  obtain ⟨a1, p1, q1, g1⟩ := iI_of (I 1000006 (n + 1))
  obtain ⟨a2, p2, q2, g2⟩ := iI_of (I 1000006 (n + 2))
  obtain ⟨a3, p3, q3, g3⟩ := iI_of (I 1000006 (n + 3))
  obtain ⟨τ, J, K, e1, e2, b1, b2, b3, b4, b5⟩ := both (x80 (L := L) hX hs p1 q1 p2 q2 p3 q3) (fun τ J h => m151 (L := L) (σ := τ) h hA p1 q1 p2 q2 p3 q3) hM hs
  refine ⟨τ, K, _, ⟨b1, b2, b3, fun q hq => (b5 q).trans (hx q hq)⟩, fun Q => ?_⟩
  clear b1 b2 b3 b5
  have f1 : ((n : Int) + 1).toNat = n + 1 := by omega
  have k1 := b4 (n + 1)
  have f2 : ((n : Int) + 2).toNat = n + 2 := by omega
  have k2 := b4 (n + 2)
  have f3 : ((n : Int) + 3).toNat = n + 3 := by omega
  have k3 := b4 (n + 3)
  rw [g1] at k1
  rw [g2] at k2
  rw [g3] at k3
  rw [u188_18]
  simp (disch := first | exact cat_i _ | exact cat_r _ | exact cat_n | omega) only [u188_19, u188_20, u188_21, u188_22, u188_23, u188_26, u188_27, u188_28, u188_29, u188_31, u188_169, u188_170, u188_171, u188_172, u188_173, u188_174, u188_175, u188_176, u188_177, u188_178, u188_179, u188_180, u188_181, u188_182, u188_183, u188_184, u188_185, u188_188, u188_189, u188_190, u188_191, u188_192, u188_193, u188_194, u188_195, u188_196, u188_197, u188_198, u188_199, u188_200, u188_201, u188_202, u188_203, u188_204, u188_207, u188_210, u188_211, u188_742, u188_745, u188_32_1, hT_0, hT_102, hT_1000006, h31, f1, k1, g1, f2, k2, g2, f3, k3, g3, e1, e2, if_pos, if_neg, ↓reduceIte, false_and, and_false, false_or, or_false, ite_not, decide_true, decide_false, Bool.true_eq_false, Bool.false_eq_true, decide_eq_true_eq, decide_eq_false_iff_not, hp_I, hp_sI, hp_N, ev_k_s, ev_k_n, true_and, and_true, true_or, or_true, not_true_eq_false, not_false_eq_true, if_true, if_false, ite_self, Option.some.injEq, exists_eq_left', nb_0, nb_1, nb_z, zI_t, zI_f, zI_e, cat_i, cat_r, cat_n, iI_add, iI_sub, iI_mul, iI_neg, iI_lt, iI_le, iI_eq, iI_idx, iI_inT, iI_ne0, ite_false, ite_true, iN_0, iN_1, Int.reduceAdd, Int.reduceSub, Int.reduceMul, Int.reduceNeg, Int.reduceDiv, Int.reduceMod, Int.reduceEq, Int.reduceLT, Int.reduceLE, Int.reduceToNat, Nat.reduceAdd, Nat.reduceSub, Nat.reduceMul, Nat.reduceLT, Nat.reduceLeDiff, Nat.reduceEqDiff, Int.cast_ofNat_Int, Std.le_refl, and_self, Int.toNat_natCast, Int.toNat_zero, Nat.le_refl]
  all_goals rfl
theorem L2 (h : LI L xs σ I A) (hL : L ≤ 2560) (hn : n + 5 ≤ L) (h31 : I 1000006 n &&& iI 31 = iI 2) : LT L xs σ I n := by
  obtain ⟨hX, hM, hs, hx⟩ := h
  have hA := RepX_AV hX
  obtain ⟨a1, p1, q1, g1⟩ := iI_of (I 1000006 (n + 1))
  obtain ⟨τ, J, K, e1, e2, b1, b2, b3, b4, b5⟩ := both (x81 (L := L) hX hs p1 q1) (fun τ J h => m152 (L := L) (σ := τ) h hA p1 q1) hM hs
  refine ⟨τ, K, _, ⟨b1, b2, b3, fun q hq => (b5 q).trans (hx q hq)⟩, fun Q => ?_⟩
  clear b1 b2 b3 b5
  have f1 : ((n : Int) + 1).toNat = n + 1 := by omega
  have k1 := b4 (n + 1)
  rw [g1] at k1
  rw [u188_18]
  simp (disch := first | exact cat_i _ | exact cat_r _ | exact cat_n | omega) only [u188_19, u188_20, u188_21, u188_22, u188_23, u188_26, u188_27, u188_28, u188_29, u188_31, u188_212, u188_213, u188_214, u188_215, u188_216, u188_217, u188_218, u188_221, u188_222, u188_223, u188_224, u188_225, u188_226, u188_227, u188_230, u188_233, u188_234, u188_742, u188_745, u188_32_2, hT_0, hT_102, hT_1000006, h31, f1, k1, g1, e1, e2, if_pos, if_neg, ↓reduceIte, false_and, and_false, false_or, or_false, ite_not, decide_true, decide_false, Bool.true_eq_false, Bool.false_eq_true, decide_eq_true_eq, decide_eq_false_iff_not, hp_I, hp_sI, hp_N, ev_k_s, ev_k_n, true_and, and_true, true_or, or_true, not_true_eq_false, not_false_eq_true, if_true, if_false, ite_self, Option.some.injEq, exists_eq_left', nb_0, nb_1, nb_z, zI_t, zI_f, zI_e, cat_i, cat_r, cat_n, iI_add, iI_sub, iI_mul, iI_neg, iI_lt, iI_le, iI_eq, iI_idx, iI_inT, iI_ne0, ite_false, ite_true, iN_0, iN_1, Int.reduceAdd, Int.reduceSub, Int.reduceMul, Int.reduceNeg, Int.reduceDiv, Int.reduceMod, Int.reduceEq, Int.reduceLT, Int.reduceLE, Int.reduceToNat, Nat.reduceAdd, Nat.reduceSub, Nat.reduceMul, Nat.reduceLT, Nat.reduceLeDiff, Nat.reduceEqDiff, Int.cast_ofNat_Int, Std.le_refl, and_self, Int.toNat_natCast, Int.toNat_zero, Nat.le_refl]
  all_goals rfl
theorem L3 (h : LI L xs σ I A) (hL : L ≤ 2560) (hn : n + 5 ≤ L) (h31 : I 1000006 n &&& iI 31 = iI 3) : LT L xs σ I n := by
  obtain ⟨hX, hM, hs, hx⟩ := h
  have hA := RepX_AV hX
  obtain ⟨a1, p1, q1, g1⟩ := iI_of (I 1000006 (n + 1))
  obtain ⟨a2, p2, q2, g2⟩ := iI_of (I 1000006 (n + 2))
  obtain ⟨a3, p3, q3, g3⟩ := iI_of (I 1000006 (n + 3))
  obtain ⟨a4, p4, q4, g4⟩ := iI_of (I 1000006 (n + 4))
  obtain ⟨τ, J, K, e1, e2, b1, b2, b3, b4, b5⟩ := both (x82 (L := L) hX hs p1 q1 p2 q2 p3 q3 p4 q4) (fun τ J h => m153 (L := L) (σ := τ) h hA p1 q1 p2 q2 p3 q3 p4 q4) hM hs
  refine ⟨τ, K, _, ⟨b1, b2, b3, fun q hq => (b5 q).trans (hx q hq)⟩, fun Q => ?_⟩
  clear b1 b2 b3 b5
  have f1 : ((n : Int) + 1).toNat = n + 1 := by omega
  have k1 := b4 (n + 1)
  have f2 : ((n : Int) + 2).toNat = n + 2 := by omega
  have k2 := b4 (n + 2)
  have f3 : ((n : Int) + 3).toNat = n + 3 := by omega
  have k3 := b4 (n + 3)
  have f4 : ((n : Int) + 4).toNat = n + 4 := by omega
  have k4 := b4 (n + 4)
  rw [g1] at k1
  rw [g2] at k2
  rw [g3] at k3
  rw [g4] at k4
  rw [u188_18]
  simp (disch := first | exact cat_i _ | exact cat_r _ | exact cat_n | omega) only [u188_19, u188_20, u188_21, u188_22, u188_23, u188_26, u188_27, u188_28, u188_29, u188_31, u188_235, u188_236, u188_237, u188_238, u188_239, u188_240, u188_241, u188_242, u188_243, u188_244, u188_245, u188_246, u188_247, u188_248, u188_249, u188_250, u188_251, u188_252, u188_253, u188_254, u188_255, u188_256, u188_259, u188_260, u188_261, u188_262, u188_263, u188_264, u188_265, u188_266, u188_267, u188_268, u188_269, u188_270, u188_271, u188_272, u188_273, u188_274, u188_275, u188_276, u188_277, u188_278, u188_279, u188_280, u188_283, u188_286, u188_287, u188_742, u188_745, u188_32_3, hT_0, hT_102, hT_1000006, h31, f1, k1, g1, f2, k2, g2, f3, k3, g3, f4, k4, g4, e1, e2, if_pos, if_neg, ↓reduceIte, false_and, and_false, false_or, or_false, ite_not, decide_true, decide_false, Bool.true_eq_false, Bool.false_eq_true, decide_eq_true_eq, decide_eq_false_iff_not, hp_I, hp_sI, hp_N, ev_k_s, ev_k_n, true_and, and_true, true_or, or_true, not_true_eq_false, not_false_eq_true, if_true, if_false, ite_self, Option.some.injEq, exists_eq_left', nb_0, nb_1, nb_z, zI_t, zI_f, zI_e, cat_i, cat_r, cat_n, iI_add, iI_sub, iI_mul, iI_neg, iI_lt, iI_le, iI_eq, iI_idx, iI_inT, iI_ne0, ite_false, ite_true, iN_0, iN_1, Int.reduceAdd, Int.reduceSub, Int.reduceMul, Int.reduceNeg, Int.reduceDiv, Int.reduceMod, Int.reduceEq, Int.reduceLT, Int.reduceLE, Int.reduceToNat, Nat.reduceAdd, Nat.reduceSub, Nat.reduceMul, Nat.reduceLT, Nat.reduceLeDiff, Nat.reduceEqDiff, Int.cast_ofNat_Int, Std.le_refl, and_self, Int.toNat_natCast, Int.toNat_zero, Nat.le_refl]
  all_goals rfl
theorem L4 (h : LI L xs σ I A) (hL : L ≤ 2560) (hn : n + 5 ≤ L) (h31 : I 1000006 n &&& iI 31 = iI 4) : LT L xs σ I n := by
  obtain ⟨hX, hM, hs, hx⟩ := h
  have hA := RepX_AV hX
  obtain ⟨a1, p1, q1, g1⟩ := iI_of (I 1000006 (n + 1))
  obtain ⟨τ, J, K, e1, e2, b1, b2, b3, b4, b5⟩ := both (x83 (L := L) hX hs p1 q1) (fun τ J h => m156 (L := L) (σ := τ) h hA p1 q1) hM hs
  refine ⟨τ, K, _, ⟨b1, b2, b3, fun q hq => (b5 q).trans (hx q hq)⟩, fun Q => ?_⟩
  clear b1 b2 b3 b5
  have f1 : ((n : Int) + 1).toNat = n + 1 := by omega
  have k1 := b4 (n + 1)
  rw [g1] at k1
  rw [u188_18]
  simp (disch := first | exact cat_i _ | exact cat_r _ | exact cat_n | omega) only [u188_19, u188_20, u188_21, u188_22, u188_23, u188_26, u188_27, u188_28, u188_29, u188_31, u188_288, u188_289, u188_290, u188_291, u188_292, u188_293, u188_294, u188_297, u188_298, u188_299, u188_300, u188_301, u188_302, u188_303, u188_306, u188_309, u188_310, u188_742, u188_745, u188_32_4, hT_0, hT_102, hT_1000006, h31, f1, k1, g1, e1, e2, if_pos, if_neg, ↓reduceIte, false_and, and_false, false_or, or_false, ite_not, decide_true, decide_false, Bool.true_eq_false, Bool.false_eq_true, decide_eq_true_eq, decide_eq_false_iff_not, hp_I, hp_sI, hp_N, ev_k_s, ev_k_n, true_and, and_true, true_or, or_true, not_true_eq_false, not_false_eq_true, if_true, if_false, ite_self, Option.some.injEq, exists_eq_left', nb_0, nb_1, nb_z, zI_t, zI_f, zI_e, cat_i, cat_r, cat_n, iI_add, iI_sub, iI_mul, iI_neg, iI_lt, iI_le, iI_eq, iI_idx, iI_inT, iI_ne0, ite_false, ite_true, iN_0, iN_1, Int.reduceAdd, Int.reduceSub, Int.reduceMul, Int.reduceNeg, Int.reduceDiv, Int.reduceMod, Int.reduceEq, Int.reduceLT, Int.reduceLE, Int.reduceToNat, Nat.reduceAdd, Nat.reduceSub, Nat.reduceMul, Nat.reduceLT, Nat.reduceLeDiff, Nat.reduceEqDiff, Int.cast_ofNat_Int, Std.le_refl, and_self, Int.toNat_natCast, Int.toNat_zero, Nat.le_refl]
  all_goals rfl
theorem L5 (h : LI L xs σ I A) (hL : L ≤ 2560) (hn : n + 5 ≤ L) (h31 : I 1000006 n &&& iI 31 = iI 5) : LT L xs σ I n := by
  obtain ⟨hX, hM, hs, hx⟩ := h
  have hA := RepX_AV hX
  obtain ⟨a1, p1, q1, g1⟩ := iI_of (I 1000006 (n + 1))
  obtain ⟨τ, J, K, e1, e2, b1, b2, b3, b4, b5⟩ := both (x84 (L := L) hX hs p1 q1) (fun τ J h => m158 (L := L) (σ := τ) h hA p1 q1) hM hs
  refine ⟨τ, K, _, ⟨b1, b2, b3, fun q hq => (b5 q).trans (hx q hq)⟩, fun Q => ?_⟩
  clear b1 b2 b3 b5
  have f1 : ((n : Int) + 1).toNat = n + 1 := by omega
  have k1 := b4 (n + 1)
  rw [g1] at k1
  rw [u188_18]
  simp (disch := first | exact cat_i _ | exact cat_r _ | exact cat_n | omega) only [u188_19, u188_20, u188_21, u188_22, u188_23, u188_26, u188_27, u188_28, u188_29, u188_31, u188_311, u188_312, u188_313, u188_314, u188_315, u188_316, u188_317, u188_320, u188_321, u188_322, u188_323, u188_324, u188_325, u188_326, u188_329, u188_332, u188_333, u188_742, u188_745, u188_32_5, hT_0, hT_102, hT_1000006, h31, f1, k1, g1, e1, e2, if_pos, if_neg, ↓reduceIte, false_and, and_false, false_or, or_false, ite_not, decide_true, decide_false, Bool.true_eq_false, Bool.false_eq_true, decide_eq_true_eq, decide_eq_false_iff_not, hp_I, hp_sI, hp_N, ev_k_s, ev_k_n, true_and, and_true, true_or, or_true, not_true_eq_false, not_false_eq_true, if_true, if_false, ite_self, Option.some.injEq, exists_eq_left', nb_0, nb_1, nb_z, zI_t, zI_f, zI_e, cat_i, cat_r, cat_n, iI_add, iI_sub, iI_mul, iI_neg, iI_lt, iI_le, iI_eq, iI_idx, iI_inT, iI_ne0, ite_false, ite_true, iN_0, iN_1, Int.reduceAdd, Int.reduceSub, Int.reduceMul, Int.reduceNeg, Int.reduceDiv, Int.reduceMod, Int.reduceEq, Int.reduceLT, Int.reduceLE, Int.reduceToNat, Nat.reduceAdd, Nat.reduceSub, Nat.reduceMul, Nat.reduceLT, Nat.reduceLeDiff, Nat.reduceEqDiff, Int.cast_ofNat_Int, Std.le_refl, and_self, Int.toNat_natCast, Int.toNat_zero, Nat.le_refl]
  all_goals rfl
theorem L6 (h : LI L xs σ I A) (hL : L ≤ 2560) (hn : n + 5 ≤ L) (h31 : I 1000006 n &&& iI 31 = iI 6) : LT L xs σ I n := by
  obtain ⟨hX, hM, hs, hx⟩ := h
  have hA := RepX_AV hX
  obtain ⟨τ, J, K, e1, e2, b1, b2, b3, b4, b5⟩ := both (x85 (L := L) hX hs) (fun τ J h => m148 (L := L) (σ := τ) h hA) hM hs
  refine ⟨τ, K, _, ⟨b1, b2, b3, fun q hq => (b5 q).trans (hx q hq)⟩, fun Q => ?_⟩
  clear b1 b2 b3 b5
  rw [u188_18]
  simp (disch := first | exact cat_i _ | exact cat_r _ | exact cat_n | omega) only [u188_19, u188_20, u188_21, u188_22, u188_23, u188_26, u188_27, u188_28, u188_29, u188_31, u188_334, u188_335, u188_338, u188_339, u188_342, u188_345, u188_346, u188_742, u188_745, u188_32_6, hT_0, hT_102, hT_1000006, h31, e1, e2, if_pos, if_neg, ↓reduceIte, false_and, and_false, false_or, or_false, ite_not, decide_true, decide_false, Bool.true_eq_false, Bool.false_eq_true, decide_eq_true_eq, decide_eq_false_iff_not, hp_I, hp_sI, hp_N, ev_k_s, ev_k_n, true_and, and_true, true_or, or_true, not_true_eq_false, not_false_eq_true, if_true, if_false, ite_self, Option.some.injEq, exists_eq_left', nb_0, nb_1, nb_z, zI_t, zI_f, zI_e, cat_i, cat_r, cat_n, iI_add, iI_sub, iI_mul, iI_neg, iI_lt, iI_le, iI_eq, iI_idx, iI_inT, iI_ne0, ite_false, ite_true, iN_0, iN_1, Int.reduceAdd, Int.reduceSub, Int.reduceMul, Int.reduceNeg, Int.reduceDiv, Int.reduceMod, Int.reduceEq, Int.reduceLT, Int.reduceLE, Int.reduceToNat, Nat.reduceAdd, Nat.reduceSub, Nat.reduceMul, Nat.reduceLT, Nat.reduceLeDiff, Nat.reduceEqDiff, Int.cast_ofNat_Int, Std.le_refl, and_self, Int.toNat_natCast, Int.toNat_zero, Nat.le_refl]
  all_goals rfl
theorem L7 (h : LI L xs σ I A) (hL : L ≤ 2560) (hn : n + 5 ≤ L) (h31 : I 1000006 n &&& iI 31 = iI 7) : LT L xs σ I n := by
  obtain ⟨hX, hM, hs, hx⟩ := h
  have hA := RepX_AV hX
  obtain ⟨τ, J, K, e1, e2, b1, b2, b3, b4, b5⟩ := both (x86 (L := L) hX hs) (fun τ J h => m181 (L := L) (σ := τ) h hA) hM hs
  refine ⟨τ, K, _, ⟨b1, b2, b3, fun q hq => (b5 q).trans (hx q hq)⟩, fun Q => ?_⟩
  clear b1 b2 b3 b5
  rw [u188_18]
  simp (disch := first | exact cat_i _ | exact cat_r _ | exact cat_n | omega) only [u188_19, u188_20, u188_21, u188_22, u188_23, u188_26, u188_27, u188_28, u188_29, u188_31, u188_347, u188_348, u188_351, u188_352, u188_355, u188_358, u188_359, u188_742, u188_745, u188_32_7, hT_0, hT_102, hT_1000006, h31, e1, e2, if_pos, if_neg, ↓reduceIte, false_and, and_false, false_or, or_false, ite_not, decide_true, decide_false, Bool.true_eq_false, Bool.false_eq_true, decide_eq_true_eq, decide_eq_false_iff_not, hp_I, hp_sI, hp_N, ev_k_s, ev_k_n, true_and, and_true, true_or, or_true, not_true_eq_false, not_false_eq_true, if_true, if_false, ite_self, Option.some.injEq, exists_eq_left', nb_0, nb_1, nb_z, zI_t, zI_f, zI_e, cat_i, cat_r, cat_n, iI_add, iI_sub, iI_mul, iI_neg, iI_lt, iI_le, iI_eq, iI_idx, iI_inT, iI_ne0, ite_false, ite_true, iN_0, iN_1, Int.reduceAdd, Int.reduceSub, Int.reduceMul, Int.reduceNeg, Int.reduceDiv, Int.reduceMod, Int.reduceEq, Int.reduceLT, Int.reduceLE, Int.reduceToNat, Nat.reduceAdd, Nat.reduceSub, Nat.reduceMul, Nat.reduceLT, Nat.reduceLeDiff, Nat.reduceEqDiff, Int.cast_ofNat_Int, Std.le_refl, and_self, Int.toNat_natCast, Int.toNat_zero, Nat.le_refl]
  all_goals rfl
theorem L8 (h : LI L xs σ I A) (hL : L ≤ 2560) (hn : n + 5 ≤ L) (h31 : I 1000006 n &&& iI 31 = iI 8) : LT L xs σ I n := by
  obtain ⟨hX, hM, hs, hx⟩ := h
  have hA := RepX_AV hX
  obtain ⟨a1, p1, q1, g1⟩ := iI_of (I 1000006 (n + 1))
  obtain ⟨a2, p2, q2, g2⟩ := iI_of (I 1000006 (n + 2))
  obtain ⟨τ, J, K, e1, e2, b1, b2, b3, b4, b5⟩ := both (x87 (L := L) hX hs p1 q1 p2 q2) (fun τ J h => m159 (L := L) (σ := τ) h hA p1 q1 p2 q2) hM hs
  refine ⟨τ, K, _, ⟨b1, b2, b3, fun q hq => (b5 q).trans (hx q hq)⟩, fun Q => ?_⟩
  clear b1 b2 b3 b5
  have f1 : ((n : Int) + 1).toNat = n + 1 := by omega
  have k1 := b4 (n + 1)
  have f2 : ((n : Int) + 2).toNat = n + 2 := by omega
  have k2 := b4 (n + 2)
  rw [g1] at k1
  rw [g2] at k2
  rw [u188_18]
  simp (disch := first | exact cat_i _ | exact cat_r _ | exact cat_n | omega) only [u188_19, u188_20, u188_21, u188_22, u188_23, u188_26, u188_27, u188_28, u188_29, u188_31, u188_360, u188_361, u188_362, u188_363, u188_364, u188_365, u188_366, u188_367, u188_368, u188_369, u188_370, u188_371, u188_374, u188_375, u188_376, u188_377, u188_378, u188_379, u188_380, u188_381, u188_382, u188_383, u188_384, u188_385, u188_388, u188_391, u188_392, u188_742, u188_745, u188_32_8, hT_0, hT_102, hT_1000006, h31, f1, k1, g1, f2, k2, g2, e1, e2, if_pos, if_neg, ↓reduceIte, false_and, and_false, false_or, or_false, ite_not, decide_true, decide_false, Bool.true_eq_false, Bool.false_eq_true, decide_eq_true_eq, decide_eq_false_iff_not, hp_I, hp_sI, hp_N, ev_k_s, ev_k_n, true_and, and_true, true_or, or_true, not_true_eq_false, not_false_eq_true, if_true, if_false, ite_self, Option.some.injEq, exists_eq_left', nb_0, nb_1, nb_z, zI_t, zI_f, zI_e, cat_i, cat_r, cat_n, iI_add, iI_sub, iI_mul, iI_neg, iI_lt, iI_le, iI_eq, iI_idx, iI_inT, iI_ne0, ite_false, ite_true, iN_0, iN_1, Int.reduceAdd, Int.reduceSub, Int.reduceMul, Int.reduceNeg, Int.reduceDiv, Int.reduceMod, Int.reduceEq, Int.reduceLT, Int.reduceLE, Int.reduceToNat, Nat.reduceAdd, Nat.reduceSub, Nat.reduceMul, Nat.reduceLT, Nat.reduceLeDiff, Nat.reduceEqDiff, Int.cast_ofNat_Int, Std.le_refl, and_self, Int.toNat_natCast, Int.toNat_zero, Nat.le_refl]
  all_goals rfl
theorem L9 (h : LI L xs σ I A) (hL : L ≤ 2560) (hn : n + 5 ≤ L) (h31 : I 1000006 n &&& iI 31 = iI 9) : LT L xs σ I n := by
  obtain ⟨hX, hM, hs, hx⟩ := h
  have hA := RepX_AV hX
  obtain ⟨a1, p1, q1, g1⟩ := iI_of (I 1000006 (n + 1))
  obtain ⟨a2, p2, q2, g2⟩ := iI_of (I 1000006 (n + 2))
  obtain ⟨a3, p3, q3, g3⟩ := iI_of (I 1000006 (n + 3))
  obtain ⟨τ, J, K, e1, e2, b1, b2, b3, b4, b5⟩ := both (x88 (L := L) hX hs p1 q1 p2 q2 p3 q3) (fun τ J h => m160 (L := L) (σ := τ) h hA p1 q1 p2 q2 p3 q3) hM hs
  refine ⟨τ, K, _, ⟨b1, b2, b3, fun q hq => (b5 q).trans (hx q hq)⟩, fun Q => ?_⟩
  clear b1 b2 b3 b5
  have f1 : ((n : Int) + 1).toNat = n + 1 := by omega
  have k1 := b4 (n + 1)
  have f2 : ((n : Int) + 2).toNat = n + 2 := by omega
  have k2 := b4 (n + 2)
  have f3 : ((n : Int) + 3).toNat = n + 3 := by omega
  have k3 := b4 (n + 3)
  rw [g1] at k1
  rw [g2] at k2
  rw [g3] at k3
  rw [u188_18]
  simp (disch := first | exact cat_i _ | exact cat_r _ | exact cat_n | omega) only [u188_19, u188_20, u188_21, u188_22, u188_23, u188_26, u188_27, u188_28, u188_29, u188_31, u188_393, u188_394, u188_395, u188_396, u188_397, u188_398, u188_399, u188_400, u188_401, u188_402, u188_403, u188_404, u188_405, u188_406, u188_407, u188_408, u188_409, u188_412, u188_413, u188_414, u188_415, u188_416, u188_417, u188_418, u188_419, u188_420, u188_421, u188_422, u188_423, u188_424, u188_425, u188_426, u188_427, u188_428, u188_431, u188_434, u188_435, u188_742, u188_745, u188_32_9, hT_0, hT_102, hT_1000006, h31, f1, k1, g1, f2, k2, g2, f3, k3, g3, e1, e2, if_pos, if_neg, ↓reduceIte, false_and, and_false, false_or, or_false, ite_not, decide_true, decide_false, Bool.true_eq_false, Bool.false_eq_true, decide_eq_true_eq, decide_eq_false_iff_not, hp_I, hp_sI, hp_N, ev_k_s, ev_k_n, true_and, and_true, true_or, or_true, not_true_eq_false, not_false_eq_true, if_true, if_false, ite_self, Option.some.injEq, exists_eq_left', nb_0, nb_1, nb_z, zI_t, zI_f, zI_e, cat_i, cat_r, cat_n, iI_add, iI_sub, iI_mul, iI_neg, iI_lt, iI_le, iI_eq, iI_idx, iI_inT, iI_ne0, ite_false, ite_true, iN_0, iN_1, Int.reduceAdd, Int.reduceSub, Int.reduceMul, Int.reduceNeg, Int.reduceDiv, Int.reduceMod, Int.reduceEq, Int.reduceLT, Int.reduceLE, Int.reduceToNat, Nat.reduceAdd, Nat.reduceSub, Nat.reduceMul, Nat.reduceLT, Nat.reduceLeDiff, Nat.reduceEqDiff, Int.cast_ofNat_Int, Std.le_refl, and_self, Int.toNat_natCast, Int.toNat_zero, Nat.le_refl]
  all_goals rfl
theorem L10 (h : LI L xs σ I A) (hL : L ≤ 2560) (hn : n + 5 ≤ L) (h31 : I 1000006 n &&& iI 31 = iI 10) : LT L xs σ I n := by
  obtain ⟨hX, hM, hs, hx⟩ := h
  have hA := RepX_AV hX
  obtain ⟨a1, p1, q1, g1⟩ := iI_of (I 1000006 (n + 1))
  obtain ⟨τ, J, K, e1, e2, b1, b2, b3, b4, b5⟩ := both (x89 (L := L) hX hs p1 q1) (fun τ J h => m163 (L := L) (σ := τ) h hA p1 q1) hM hs
  refine ⟨τ, K, _, ⟨b1, b2, b3, fun q hq => (b5 q).trans (hx q hq)⟩, fun Q => ?_⟩
  clear b1 b2 b3 b5
  have f1 : ((n : Int) + 1).toNat = n + 1 := by omega
  have k1 := b4 (n + 1)
  rw [g1] at k1
  rw [u188_18]
  simp (disch := first | exact cat_i _ | exact cat_r _ | exact cat_n | omega) only [u188_19, u188_20, u188_21, u188_22, u188_23, u188_26, u188_27, u188_28, u188_29, u188_31, u188_436, u188_437, u188_438, u188_439, u188_440, u188_441, u188_442, u188_445, u188_446, u188_447, u188_448, u188_449, u188_450, u188_451, u188_454, u188_457, u188_458, u188_742, u188_745, u188_32_10, hT_0, hT_102, hT_1000006, h31, f1, k1, g1, e1, e2, if_pos, if_neg, ↓reduceIte, false_and, and_false, false_or, or_false, ite_not, decide_true, decide_false, Bool.true_eq_false, Bool.false_eq_true, decide_eq_true_eq, decide_eq_false_iff_not, hp_I, hp_sI, hp_N, ev_k_s, ev_k_n, true_and, and_true, true_or, or_true, not_true_eq_false, not_false_eq_true, if_true, if_false, ite_self, Option.some.injEq, exists_eq_left', nb_0, nb_1, nb_z, zI_t, zI_f, zI_e, cat_i, cat_r, cat_n, iI_add, iI_sub, iI_mul, iI_neg, iI_lt, iI_le, iI_eq, iI_idx, iI_inT, iI_ne0, ite_false, ite_true, iN_0, iN_1, Int.reduceAdd, Int.reduceSub, Int.reduceMul, Int.reduceNeg, Int.reduceDiv, Int.reduceMod, Int.reduceEq, Int.reduceLT, Int.reduceLE, Int.reduceToNat, Nat.reduceAdd, Nat.reduceSub, Nat.reduceMul, Nat.reduceLT, Nat.reduceLeDiff, Nat.reduceEqDiff, Int.cast_ofNat_Int, Std.le_refl, and_self, Int.toNat_natCast, Int.toNat_zero, Nat.le_refl]
  all_goals rfl
theorem L11 (h : LI L xs σ I A) (hL : L ≤ 2560) (hn : n + 5 ≤ L) (h31 : I 1000006 n &&& iI 31 = iI 11) : LT L xs σ I n := by
  obtain ⟨hX, hM, hs, hx⟩ := h
  have hA := RepX_AV hX
  obtain ⟨a1, p1, q1, g1⟩ := iI_of (I 1000006 (n + 1))
  obtain ⟨a2, p2, q2, g2⟩ := iI_of (I 1000006 (n + 2))
  obtain ⟨τ, J, K, e1, e2, b1, b2, b3, b4, b5⟩ := both (x90 (L := L) hX hs p1 q1 p2 q2) (fun τ J h => m164 (L := L) (σ := τ) h hA p1 q1 p2 q2) hM hs
  refine ⟨τ, K, _, ⟨b1, b2, b3, fun q hq => (b5 q).trans (hx q hq)⟩, fun Q => ?_⟩
  clear b1 b2 b3 b5
  have f1 : ((n : Int) + 1).toNat = n + 1 := by omega
  have k1 := b4 (n + 1)
  have f2 : ((n : Int) + 2).toNat = n + 2 := by omega
  have k2 := b4 (n + 2)
  rw [g1] at k1
  rw [g2] at k2
  rw [u188_18]
  simp (disch := first | exact cat_i _ | exact cat_r _ | exact cat_n | omega) only [u188_19, u188_20, u188_21, u188_22, u188_23, u188_26, u188_27, u188_28, u188_29, u188_31, u188_459, u188_460, u188_461, u188_462, u188_463, u188_464, u188_465, u188_466, u188_467, u188_468, u188_469, u188_470, u188_473, u188_474, u188_475, u188_476, u188_477, u188_478, u188_479, u188_480, u188_481, u188_482, u188_483, u188_484, u188_487, u188_490, u188_491, u188_742, u188_745, u188_32_11, hT_0, hT_102, hT_1000006, h31, f1, k1, g1, f2, k2, g2, e1, e2, if_pos, if_neg, ↓reduceIte, false_and, and_false, false_or, or_false, ite_not, decide_true, decide_false, Bool.true_eq_false, Bool.false_eq_true, decide_eq_true_eq, decide_eq_false_iff_not, hp_I, hp_sI, hp_N, ev_k_s, ev_k_n, true_and, and_true, true_or, or_true, not_true_eq_false, not_false_eq_true, if_true, if_false, ite_self, Option.some.injEq, exists_eq_left', nb_0, nb_1, nb_z, zI_t, zI_f, zI_e, cat_i, cat_r, cat_n, iI_add, iI_sub, iI_mul, iI_neg, iI_lt, iI_le, iI_eq, iI_idx, iI_inT, iI_ne0, ite_false, ite_true, iN_0, iN_1, Int.reduceAdd, Int.reduceSub, Int.reduceMul, Int.reduceNeg, Int.reduceDiv, Int.reduceMod, Int.reduceEq, Int.reduceLT, Int.reduceLE, Int.reduceToNat, Nat.reduceAdd, Nat.reduceSub, Nat.reduceMul, Nat.reduceLT, Nat.reduceLeDiff, Nat.reduceEqDiff, Int.cast_ofNat_Int, Std.le_refl, and_self, Int.toNat_natCast, Int.toNat_zero, Nat.le_refl]
  all_goals rfl
theorem L12 (h : LI L xs σ I A) (hL : L ≤ 2560) (hn : n + 5 ≤ L) (h31 : I 1000006 n &&& iI 31 = iI 12) : LT L xs σ I n := by
  obtain ⟨hX, hM, hs, hx⟩ := h
  have hA := RepX_AV hX
  obtain ⟨τ, J, K, e1, e2, b1, b2, b3, b4, b5⟩ := both (x91 (L := L) hX hs) (fun τ J h => m145 (L := L) (σ := τ) h hA) hM hs
  refine ⟨τ, K, _, ⟨b1, b2, b3, fun q hq => (b5 q).trans (hx q hq)⟩, fun Q => ?_⟩
  clear b1 b2 b3 b5
  rw [u188_18]
  simp (disch := first | exact cat_i _ | exact cat_r _ | exact cat_n | omega) only [u188_19, u188_20, u188_21, u188_22, u188_23, u188_26, u188_27, u188_28, u188_29, u188_31, u188_492, u188_493, u188_496, u188_497, u188_500, u188_503, u188_504, u188_742, u188_745, u188_32_12, hT_0, hT_102, hT_1000006, h31, e1, e2, if_pos, if_neg, ↓reduceIte, false_and, and_false, false_or, or_false, ite_not, decide_true, decide_false, Bool.true_eq_false, Bool.false_eq_true, decide_eq_true_eq, decide_eq_false_iff_not, hp_I, hp_sI, hp_N, ev_k_s, ev_k_n, true_and, and_true, true_or, or_true, not_true_eq_false, not_false_eq_true, if_true, if_false, ite_self, Option.some.injEq, exists_eq_left', nb_0, nb_1, nb_z, zI_t, zI_f, zI_e, cat_i, cat_r, cat_n, iI_add, iI_sub, iI_mul, iI_neg, iI_lt, iI_le, iI_eq, iI_idx, iI_inT, iI_ne0, ite_false, ite_true, iN_0, iN_1, Int.reduceAdd, Int.reduceSub, Int.reduceMul, Int.reduceNeg, Int.reduceDiv, Int.reduceMod, Int.reduceEq, Int.reduceLT, Int.reduceLE, Int.reduceToNat, Nat.reduceAdd, Nat.reduceSub, Nat.reduceMul, Nat.reduceLT, Nat.reduceLeDiff, Nat.reduceEqDiff, Int.cast_ofNat_Int, Std.le_refl, and_self, Int.toNat_natCast, Int.toNat_zero, Nat.le_refl]
  all_goals rfl
theorem L13 (h : LI L xs σ I A) (hL : L ≤ 2560) (hn : n + 5 ≤ L) (h31 : I 1000006 n &&& iI 31 = iI 13) : LT L xs σ I n := by
  obtain ⟨hX, hM, hs, hx⟩ := h
  have hA := RepX_AV hX
  obtain ⟨a1, p1, q1, g1⟩ := iI_of (I 1000006 (n + 1))
  obtain ⟨a2, p2, q2, g2⟩ := iI_of (I 1000006 (n + 2))
  obtain ⟨τ, J, K, e1, e2, b1, b2, b3, b4, b5⟩ := both (x92 (L := L) hX hs p1 q1 p2 q2) (fun τ J h => m165 (L := L) (σ := τ) h hA p1 q1 p2 q2) hM hs
  refine ⟨τ, K, _, ⟨b1, b2, b3, fun q hq => (b5 q).trans (hx q hq)⟩, fun Q => ?_⟩
  clear b1 b2 b3 b5
  have f1 : ((n : Int) + 1).toNat = n + 1 := by omega
  have k1 := b4 (n + 1)
  have f2 : ((n : Int) + 2).toNat = n + 2 := by omega
  have k2 := b4 (n + 2)
  rw [g1] at k1
  rw [g2] at k2
  rw [u188_18]
  simp (disch := first | exact cat_i _ | exact cat_r _ | exact cat_n | omega) only [u188_19, u188_20, u188_21, u188_22, u188_23, u188_26, u188_27, u188_28, u188_29, u188_31, u188_505, u188_506, u188_507, u188_508, u188_509, u188_510, u188_511, u188_512, u188_513, u188_514, u188_515, u188_516, u188_519, u188_520, u188_521, u188_522, u188_523, u188_524, u188_525, u188_526, u188_527, u188_528, u188_529, u188_530, u188_533, u188_536, u188_537, u188_742, u188_745, u188_32_13, hT_0, hT_102, hT_1000006, h31, f1, k1, g1, f2, k2, g2, e1, e2, if_pos, if_neg, ↓reduceIte, false_and, and_false, false_or, or_false, ite_not, decide_true, decide_false, Bool.true_eq_false, Bool.false_eq_true, decide_eq_true_eq, decide_eq_false_iff_not, hp_I, hp_sI, hp_N, ev_k_s, ev_k_n, true_and, and_true, true_or, or_true, not_true_eq_false, not_false_eq_true, if_true, if_false, ite_self, Option.some.injEq, exists_eq_left', nb_0, nb_1, nb_z, zI_t, zI_f, zI_e, cat_i, cat_r, cat_n, iI_add, iI_sub, iI_mul, iI_neg, iI_lt, iI_le, iI_eq, iI_idx, iI_inT, iI_ne0, ite_false, ite_true, iN_0, iN_1, Int.reduceAdd, Int.reduceSub, Int.reduceMul, Int.reduceNeg, Int.reduceDiv, Int.reduceMod, Int.reduceEq, Int.reduceLT, Int.reduceLE, Int.reduceToNat, Nat.reduceAdd, Nat.reduceSub, Nat.reduceMul, Nat.reduceLT, Nat.reduceLeDiff, Nat.reduceEqDiff, Int.cast_ofNat_Int, Std.le_refl, and_self, Int.toNat_natCast, Int.toNat_zero, Nat.le_refl]
  all_goals rfl
theorem L14 (h : LI L xs σ I A) (hL : L ≤ 2560) (hn : n + 5 ≤ L) (h31 : I 1000006 n &&& iI 31 = iI 14) : LT L xs σ I n := by
  obtain ⟨hX, hM, hs, hx⟩ := h
  have hA := RepX_AV hX
  obtain ⟨a1, p1, q1, g1⟩ := iI_of (I 1000006 (n + 1))
  obtain ⟨a2, p2, q2, g2⟩ := iI_of (I 1000006 (n + 2))
  obtain ⟨a3, p3, q3, g3⟩ := iI_of (I 1000006 (n + 3))
  obtain ⟨a4, p4, q4, g4⟩ := iI_of (I 1000006 (n + 4))
  obtain ⟨τ, J, K, e1, e2, b1, b2, b3, b4, b5⟩ := both (x93 (L := L) hX hs p1 q1 p2 q2 p3 q3 p4 q4) (fun τ J h => m166 (L := L) (σ := τ) h hA p1 q1 p2 q2 p3 q3 p4 q4) hM hs
  refine ⟨τ, K, _, ⟨b1, b2, b3, fun q hq => (b5 q).trans (hx q hq)⟩, fun Q => ?_⟩
  clear b1 b2 b3 b5
  have f1 : ((n : Int) + 1).toNat = n + 1 := by omega
  have k1 := b4 (n + 1)
  have f2 : ((n : Int) + 2).toNat = n + 2 := by omega
  have k2 := b4 (n + 2)
  have f3 : ((n : Int) + 3).toNat = n + 3 := by omega
  have k3 := b4 (n + 3)
  have f4 : ((n : Int) + 4).toNat = n + 4 := by omega
  have k4 := b4 (n + 4)
  rw [g1] at k1
  rw [g2] at k2
  rw [g3] at k3
  rw [g4] at k4
  rw [u188_18]
  simp (disch := first | exact cat_i _ | exact cat_r _ | exact cat_n | omega) only [u188_19, u188_20, u188_21, u188_22, u188_23, u188_26, u188_27, u188_28, u188_29, u188_31, u188_538, u188_539, u188_540, u188_541, u188_542, u188_543, u188_544, u188_545, u188_546, u188_547, u188_548, u188_549, u188_550, u188_551, u188_552, u188_553, u188_554, u188_555, u188_556, u188_557, u188_558, u188_559, u188_562, u188_563, u188_564, u188_565, u188_566, u188_567, u188_568, u188_569, u188_570, u188_571, u188_572, u188_573, u188_574, u188_575, u188_576, u188_577, u188_578, u188_579, u188_580, u188_581, u188_582, u188_583, u188_586, u188_589, u188_590, u188_742, u188_745, u188_32_14, hT_0, hT_102, hT_1000006, h31, f1, k1, g1, f2, k2, g2, f3, k3, g3, f4, k4, g4, e1, e2, if_pos, if_neg, ↓reduceIte, false_and, and_false, false_or, or_false, ite_not, decide_true, decide_false, Bool.true_eq_false, Bool.false_eq_true, decide_eq_true_eq, decide_eq_false_iff_not, hp_I, hp_sI, hp_N, ev_k_s, ev_k_n, true_and, and_true, true_or, or_true, not_true_eq_false, not_false_eq_true, if_true, if_false, ite_self, Option.some.injEq, exists_eq_left', nb_0, nb_1, nb_z, zI_t, zI_f, zI_e, cat_i, cat_r, cat_n, iI_add, iI_sub, iI_mul, iI_neg, iI_lt, iI_le, iI_eq, iI_idx, iI_inT, iI_ne0, ite_false, ite_true, iN_0, iN_1, Int.reduceAdd, Int.reduceSub, Int.reduceMul, Int.reduceNeg, Int.reduceDiv, Int.reduceMod, Int.reduceEq, Int.reduceLT, Int.reduceLE, Int.reduceToNat, Nat.reduceAdd, Nat.reduceSub, Nat.reduceMul, Nat.reduceLT, Nat.reduceLeDiff, Nat.reduceEqDiff, Int.cast_ofNat_Int, Std.le_refl, and_self, Int.toNat_natCast, Int.toNat_zero, Nat.le_refl]
  all_goals rfl
theorem L15 (h : LI L xs σ I A) (hL : L ≤ 2560) (hn : n + 5 ≤ L) (h31 : I 1000006 n &&& iI 31 = iI 15) : LT L xs σ I n := by
  obtain ⟨hX, hM, hs, hx⟩ := h
  have hA := RepX_AV hX
  obtain ⟨τ, J, K, e1, e2, b1, b2, b3, b4, b5⟩ := both (x94 (L := L) hX hs) (fun τ J h => m167 (L := L) (σ := τ) h hA) hM hs
  refine ⟨τ, K, _, ⟨b1, b2, b3, fun q hq => (b5 q).trans (hx q hq)⟩, fun Q => ?_⟩
  clear b1 b2 b3 b5
  rw [u188_18]
  simp (disch := first | exact cat_i _ | exact cat_r _ | exact cat_n | omega) only [u188_19, u188_20, u188_21, u188_22, u188_23, u188_26, u188_27, u188_28, u188_29, u188_31, u188_591, u188_592, u188_595, u188_596, u188_599, u188_602, u188_603, u188_742, u188_745, u188_32_15, hT_0, hT_102, hT_1000006, h31, e1, e2, if_pos, if_neg, ↓reduceIte, false_and, and_false, false_or, or_false, ite_not, decide_true, decide_false, Bool.true_eq_false, Bool.false_eq_true, decide_eq_true_eq, decide_eq_false_iff_not, hp_I, hp_sI, hp_N, ev_k_s, ev_k_n, true_and, and_true, true_or, or_true, not_true_eq_false, not_false_eq_true, if_true, if_false, ite_self, Option.some.injEq, exists_eq_left', nb_0, nb_1, nb_z, zI_t, zI_f, zI_e, cat_i, cat_r, cat_n, iI_add, iI_sub, iI_mul, iI_neg, iI_lt, iI_le, iI_eq, iI_idx, iI_inT, iI_ne0, ite_false, ite_true, iN_0, iN_1, Int.reduceAdd, Int.reduceSub, Int.reduceMul, Int.reduceNeg, Int.reduceDiv, Int.reduceMod, Int.reduceEq, Int.reduceLT, Int.reduceLE, Int.reduceToNat, Nat.reduceAdd, Nat.reduceSub, Nat.reduceMul, Nat.reduceLT, Nat.reduceLeDiff, Nat.reduceEqDiff, Int.cast_ofNat_Int, Std.le_refl, and_self, Int.toNat_natCast, Int.toNat_zero, Nat.le_refl]
  all_goals rfl
theorem L16 (h : LI L xs σ I A) (hL : L ≤ 2560) (hn : n + 5 ≤ L) (h31 : I 1000006 n &&& iI 31 = iI 16) : LT L xs σ I n := by
  obtain ⟨hX, hM, hs, hx⟩ := h
  have hA := RepX_AV hX
  obtain ⟨τ, J, K, e1, e2, b1, b2, b3, b4, b5⟩ := both (x95 (L := L) (z := ((j_lshl (I 1000006 (n + 1)).toInt64 (iI 32)) ||| ((I 1000006 (n + 2)).toInt64 &&& 4294967295))) hX hs) (fun τ J h => m168 (L := L) (σ := τ) (z := ((j_lshl (I 1000006 (n + 1)).toInt64 (iI 32)) ||| ((I 1000006 (n + 2)).toInt64 &&& 4294967295))) h hA) hM hs
  refine ⟨τ, K, _, ⟨b1, b2, b3, fun q hq => (b5 q).trans (hx q hq)⟩, fun Q => ?_⟩
  clear b1 b2 b3 b5
  have f1 : ((n : Int) + 1).toNat = n + 1 := by omega
  have k1 := b4 (n + 1)
  have f2 : ((n : Int) + 2).toNat = n + 2 := by omega
  have k2 := b4 (n + 2)
  rw [u188_18]
  simp (disch := first | exact cat_i _ | exact cat_r _ | exact cat_n | omega) only [u188_19, u188_20, u188_21, u188_22, u188_23, u188_26, u188_27, u188_28, u188_29, u188_31, u188_604, u188_605, u188_606, u188_607, u188_608, u188_609, u188_610, u188_611, u188_613, u188_614, u188_615, u188_616, u188_617, u188_618, u188_619, u188_620, u188_623, u188_624, u188_625, u188_628, u188_629, u188_630, u188_631, u188_632, u188_633, u188_634, u188_635, u188_637, u188_638, u188_639, u188_640, u188_641, u188_642, u188_643, u188_644, u188_647, u188_648, u188_649, u188_652, u188_655, u188_656, u188_742, u188_745, u188_32_16, hT_0, hT_102, hT_1000006, h31, f1, k1, f2, k2, e1, e2, if_pos, if_neg, ↓reduceIte, false_and, and_false, false_or, or_false, ite_not, decide_true, decide_false, Bool.true_eq_false, Bool.false_eq_true, decide_eq_true_eq, decide_eq_false_iff_not, hp_I, hp_sI, hp_N, ev_k_s, ev_k_n, true_and, and_true, true_or, or_true, not_true_eq_false, not_false_eq_true, if_true, if_false, ite_self, Option.some.injEq, exists_eq_left', nb_0, nb_1, nb_z, zI_t, zI_f, zI_e, cat_i, cat_r, cat_n, iI_add, iI_sub, iI_mul, iI_neg, iI_lt, iI_le, iI_eq, iI_idx, iI_inT, iI_ne0, ite_false, ite_true, iN_0, iN_1, Int.reduceAdd, Int.reduceSub, Int.reduceMul, Int.reduceNeg, Int.reduceDiv, Int.reduceMod, Int.reduceEq, Int.reduceLT, Int.reduceLE, Int.reduceToNat, Nat.reduceAdd, Nat.reduceSub, Nat.reduceMul, Nat.reduceLT, Nat.reduceLeDiff, Nat.reduceEqDiff, Int.cast_ofNat_Int, Std.le_refl, and_self, Int.toNat_natCast, Int.toNat_zero, Nat.le_refl]
  all_goals rfl
theorem L17 (h : LI L xs σ I A) (hL : L ≤ 2560) (hn : n + 5 ≤ L) (h31 : I 1000006 n &&& iI 31 = iI 17) : LT L xs σ I n := by
  obtain ⟨hX, hM, hs, hx⟩ := h
  have hA := RepX_AV hX
  obtain ⟨τ, J, K, e1, e2, b1, b2, b3, b4, b5⟩ := both (x96 (L := L) hX hs) (fun τ J h => m169 (L := L) (σ := τ) h hA) hM hs
  refine ⟨τ, K, _, ⟨b1, b2, b3, fun q hq => (b5 q).trans (hx q hq)⟩, fun Q => ?_⟩
  clear b1 b2 b3 b5
  rw [u188_18]
  simp (disch := first | exact cat_i _ | exact cat_r _ | exact cat_n | omega) only [u188_19, u188_20, u188_21, u188_22, u188_23, u188_26, u188_27, u188_28, u188_29, u188_31, u188_657, u188_658, u188_661, u188_662, u188_665, u188_668, u188_669, u188_742, u188_745, u188_32_17, hT_0, hT_102, hT_1000006, h31, e1, e2, if_pos, if_neg, ↓reduceIte, false_and, and_false, false_or, or_false, ite_not, decide_true, decide_false, Bool.true_eq_false, Bool.false_eq_true, decide_eq_true_eq, decide_eq_false_iff_not, hp_I, hp_sI, hp_N, ev_k_s, ev_k_n, true_and, and_true, true_or, or_true, not_true_eq_false, not_false_eq_true, if_true, if_false, ite_self, Option.some.injEq, exists_eq_left', nb_0, nb_1, nb_z, zI_t, zI_f, zI_e, cat_i, cat_r, cat_n, iI_add, iI_sub, iI_mul, iI_neg, iI_lt, iI_le, iI_eq, iI_idx, iI_inT, iI_ne0, ite_false, ite_true, iN_0, iN_1, Int.reduceAdd, Int.reduceSub, Int.reduceMul, Int.reduceNeg, Int.reduceDiv, Int.reduceMod, Int.reduceEq, Int.reduceLT, Int.reduceLE, Int.reduceToNat, Nat.reduceAdd, Nat.reduceSub, Nat.reduceMul, Nat.reduceLT, Nat.reduceLeDiff, Nat.reduceEqDiff, Int.cast_ofNat_Int, Std.le_refl, and_self, Int.toNat_natCast, Int.toNat_zero, Nat.le_refl]
  all_goals rfl
theorem L18 (h : LI L xs σ I A) (hL : L ≤ 2560) (hn : n + 5 ≤ L) (h31 : I 1000006 n &&& iI 31 = iI 18) : LT L xs σ I n := by
  obtain ⟨hX, hM, hs, hx⟩ := h
  have hA := RepX_AV hX
  obtain ⟨τ, J, K, e1, e2, b1, b2, b3, b4, b5⟩ := both (x97 (L := L) hX hs) (fun τ J h => m177 (L := L) (σ := τ) h hA) hM hs
  refine ⟨τ, K, _, ⟨b1, b2, b3, fun q hq => (b5 q).trans (hx q hq)⟩, fun Q => ?_⟩
  clear b1 b2 b3 b5
  rw [u188_18]
  simp (disch := first | exact cat_i _ | exact cat_r _ | exact cat_n | omega) only [u188_19, u188_20, u188_21, u188_22, u188_23, u188_26, u188_27, u188_28, u188_29, u188_31, u188_670, u188_671, u188_674, u188_675, u188_678, u188_681, u188_682, u188_742, u188_745, u188_32_18, hT_0, hT_102, hT_1000006, h31, e1, e2, if_pos, if_neg, ↓reduceIte, false_and, and_false, false_or, or_false, ite_not, decide_true, decide_false, Bool.true_eq_false, Bool.false_eq_true, decide_eq_true_eq, decide_eq_false_iff_not, hp_I, hp_sI, hp_N, ev_k_s, ev_k_n, true_and, and_true, true_or, or_true, not_true_eq_false, not_false_eq_true, if_true, if_false, ite_self, Option.some.injEq, exists_eq_left', nb_0, nb_1, nb_z, zI_t, zI_f, zI_e, cat_i, cat_r, cat_n, iI_add, iI_sub, iI_mul, iI_neg, iI_lt, iI_le, iI_eq, iI_idx, iI_inT, iI_ne0, ite_false, ite_true, iN_0, iN_1, Int.reduceAdd, Int.reduceSub, Int.reduceMul, Int.reduceNeg, Int.reduceDiv, Int.reduceMod, Int.reduceEq, Int.reduceLT, Int.reduceLE, Int.reduceToNat, Nat.reduceAdd, Nat.reduceSub, Nat.reduceMul, Nat.reduceLT, Nat.reduceLeDiff, Nat.reduceEqDiff, Int.cast_ofNat_Int, Std.le_refl, and_self, Int.toNat_natCast, Int.toNat_zero, Nat.le_refl]
  all_goals rfl
theorem L19 (h : LI L xs σ I A) (hL : L ≤ 2560) (hn : n + 5 ≤ L) (h31 : I 1000006 n &&& iI 31 = iI 19) : LT L xs σ I n := by
  obtain ⟨hX, hM, hs, hx⟩ := h
  have hA := RepX_AV hX
  obtain ⟨τ, J, K, e1, e2, b1, b2, b3, b4, b5⟩ := both (x98 (L := L) hX hs) (fun τ J h => m182 (L := L) (σ := τ) h hA) hM hs
  refine ⟨τ, K, _, ⟨b1, b2, b3, fun q hq => (b5 q).trans (hx q hq)⟩, fun Q => ?_⟩
  clear b1 b2 b3 b5
  rw [u188_18]
  simp (disch := first | exact cat_i _ | exact cat_r _ | exact cat_n | omega) only [u188_19, u188_20, u188_21, u188_22, u188_23, u188_26, u188_27, u188_28, u188_29, u188_31, u188_683, u188_684, u188_687, u188_688, u188_691, u188_694, u188_695, u188_742, u188_745, u188_32_19, hT_0, hT_102, hT_1000006, h31, e1, e2, if_pos, if_neg, ↓reduceIte, false_and, and_false, false_or, or_false, ite_not, decide_true, decide_false, Bool.true_eq_false, Bool.false_eq_true, decide_eq_true_eq, decide_eq_false_iff_not, hp_I, hp_sI, hp_N, ev_k_s, ev_k_n, true_and, and_true, true_or, or_true, not_true_eq_false, not_false_eq_true, if_true, if_false, ite_self, Option.some.injEq, exists_eq_left', nb_0, nb_1, nb_z, zI_t, zI_f, zI_e, cat_i, cat_r, cat_n, iI_add, iI_sub, iI_mul, iI_neg, iI_lt, iI_le, iI_eq, iI_idx, iI_inT, iI_ne0, ite_false, ite_true, iN_0, iN_1, Int.reduceAdd, Int.reduceSub, Int.reduceMul, Int.reduceNeg, Int.reduceDiv, Int.reduceMod, Int.reduceEq, Int.reduceLT, Int.reduceLE, Int.reduceToNat, Nat.reduceAdd, Nat.reduceSub, Nat.reduceMul, Nat.reduceLT, Nat.reduceLeDiff, Nat.reduceEqDiff, Int.cast_ofNat_Int, Std.le_refl, and_self, Int.toNat_natCast, Int.toNat_zero, Nat.le_refl]
  all_goals rfl
theorem L20 (h : LI L xs σ I A) (hL : L ≤ 2560) (hn : n + 5 ≤ L) (h31 : I 1000006 n &&& iI 31 = iI 20) : LT L xs σ I n := by
  obtain ⟨hX, hM, hs, hx⟩ := h
  have hA := RepX_AV hX
  obtain ⟨a1, p1, q1, g1⟩ := iI_of (I 1000006 (n + 1))
  obtain ⟨τ, J, K, e1, e2, b1, b2, b3, b4, b5⟩ := both (x99 (L := L) hX hs p1 q1) (fun τ J h => m183 (L := L) (σ := τ) h hA p1 q1) hM hs
  refine ⟨τ, K, _, ⟨b1, b2, b3, fun q hq => (b5 q).trans (hx q hq)⟩, fun Q => ?_⟩
  clear b1 b2 b3 b5
  have f1 : ((n : Int) + 1).toNat = n + 1 := by omega
  have k1 := b4 (n + 1)
  rw [g1] at k1
  rw [u188_18]
  simp (disch := first | exact cat_i _ | exact cat_r _ | exact cat_n | omega) only [u188_19, u188_20, u188_21, u188_22, u188_23, u188_26, u188_27, u188_28, u188_29, u188_31, u188_696, u188_697, u188_698, u188_699, u188_700, u188_701, u188_702, u188_705, u188_706, u188_707, u188_708, u188_709, u188_710, u188_711, u188_714, u188_717, u188_718, u188_742, u188_745, u188_32_20, hT_0, hT_102, hT_1000006, h31, f1, k1, g1, e1, e2, if_pos, if_neg, ↓reduceIte, false_and, and_false, false_or, or_false, ite_not, decide_true, decide_false, Bool.true_eq_false, Bool.false_eq_true, decide_eq_true_eq, decide_eq_false_iff_not, hp_I, hp_sI, hp_N, ev_k_s, ev_k_n, true_and, and_true, true_or, or_true, not_true_eq_false, not_false_eq_true, if_true, if_false, ite_self, Option.some.injEq, exists_eq_left', nb_0, nb_1, nb_z, zI_t, zI_f, zI_e, cat_i, cat_r, cat_n, iI_add, iI_sub, iI_mul, iI_neg, iI_lt, iI_le, iI_eq, iI_idx, iI_inT, iI_ne0, ite_false, ite_true, iN_0, iN_1, Int.reduceAdd, Int.reduceSub, Int.reduceMul, Int.reduceNeg, Int.reduceDiv, Int.reduceMod, Int.reduceEq, Int.reduceLT, Int.reduceLE, Int.reduceToNat, Nat.reduceAdd, Nat.reduceSub, Nat.reduceMul, Nat.reduceLT, Nat.reduceLeDiff, Nat.reduceEqDiff, Int.cast_ofNat_Int, Std.le_refl, and_self, Int.toNat_natCast, Int.toNat_zero, Nat.le_refl]
  all_goals rfl
theorem L21 (h : LI L xs σ I A) (hL : L ≤ 2560) (hn : n + 5 ≤ L) (h31 : I 1000006 n &&& iI 31 = iI 21) : LT L xs σ I n := by
  obtain ⟨hX, hM, hs, hx⟩ := h
  have hA := RepX_AV hX
  obtain ⟨a1, p1, q1, g1⟩ := iI_of (I 1000006 (n + 1))
  obtain ⟨τ, J, K, e1, e2, b1, b2, b3, b4, b5⟩ := both (x100 (L := L) hX hs p1 q1) (fun τ J h => m184 (L := L) (σ := τ) h hA p1 q1) hM hs
  refine ⟨τ, K, _, ⟨b1, b2, b3, fun q hq => (b5 q).trans (hx q hq)⟩, fun Q => ?_⟩
  clear b1 b2 b3 b5
  have f1 : ((n : Int) + 1).toNat = n + 1 := by omega
  have k1 := b4 (n + 1)
  rw [g1] at k1
  rw [u188_18]
  simp (disch := first | exact cat_i _ | exact cat_r _ | exact cat_n | omega) only [u188_19, u188_20, u188_21, u188_22, u188_23, u188_26, u188_27, u188_28, u188_29, u188_31, u188_719, u188_720, u188_721, u188_722, u188_723, u188_724, u188_725, u188_728, u188_729, u188_730, u188_731, u188_732, u188_733, u188_734, u188_737, u188_740, u188_741, u188_742, u188_745, u188_32_21, hT_0, hT_102, hT_1000006, h31, f1, k1, g1, e1, e2, if_pos, if_neg, ↓reduceIte, false_and, and_false, false_or, or_false, ite_not, decide_true, decide_false, Bool.true_eq_false, Bool.false_eq_true, decide_eq_true_eq, decide_eq_false_iff_not, hp_I, hp_sI, hp_N, ev_k_s, ev_k_n, true_and, and_true, true_or, or_true, not_true_eq_false, not_false_eq_true, if_true, if_false, ite_self, Option.some.injEq, exists_eq_left', nb_0, nb_1, nb_z, zI_t, zI_f, zI_e, cat_i, cat_r, cat_n, iI_add, iI_sub, iI_mul, iI_neg, iI_lt, iI_le, iI_eq, iI_idx, iI_inT, iI_ne0, ite_false, ite_true, iN_0, iN_1, Int.reduceAdd, Int.reduceSub, Int.reduceMul, Int.reduceNeg, Int.reduceDiv, Int.reduceMod, Int.reduceEq, Int.reduceLT, Int.reduceLE, Int.reduceToNat, Nat.reduceAdd, Nat.reduceSub, Nat.reduceMul, Nat.reduceLT, Nat.reduceLeDiff, Nat.reduceEqDiff, Int.cast_ofNat_Int, Std.le_refl, and_self, Int.toNat_natCast, Int.toNat_zero, Nat.le_refl]
  all_goals rfl
theorem L_o (h : LI L xs σ I A) (hL : L ≤ 2560) (hn : n + 5 ≤ L) {c : Nat} (hc : 22 ≤ c) (hc2 : c < 32) (h31 : I 1000006 n &&& iI 31 = iI (c : Int)) : LT L xs σ I n := by
  refine ⟨σ, I, A, h, fun Q => ?_⟩
  have hrg : (iI (c : Int)).toInt < 0 ∨ 21 < (iI (c : Int)).toInt := iI_rng (by omega) (by omega) (by omega)
  rw [u188_18]
  simp (disch := first | exact cat_i _ | exact cat_r _ | exact cat_n | omega) only [u188_19, u188_20, u188_21, u188_22, u188_23, u188_26, u188_27, u188_28, u188_29, u188_31, u188_742, u188_745, u188_32 hrg, hT_0, hT_102, hT_1000006, h31, if_pos, if_neg, ↓reduceIte, false_and, and_false, false_or, or_false, ite_not, decide_true, decide_false, Bool.true_eq_false, Bool.false_eq_true, decide_eq_true_eq, decide_eq_false_iff_not, hp_I, hp_sI, hp_N, ev_k_s, ev_k_n, true_and, and_true, true_or, or_true, not_true_eq_false, not_false_eq_true, if_true, if_false, ite_self, Option.some.injEq, exists_eq_left', nb_0, nb_1, nb_z, zI_t, zI_f, zI_e, cat_i, cat_r, cat_n, iI_add, iI_sub, iI_mul, iI_neg, iI_lt, iI_le, iI_eq, iI_idx, iI_inT, iI_ne0, ite_false, ite_true, iN_0, iN_1, Int.reduceAdd, Int.reduceSub, Int.reduceMul, Int.reduceNeg, Int.reduceDiv, Int.reduceMod, Int.reduceEq, Int.reduceLT, Int.reduceLE, Int.reduceToNat, Nat.reduceAdd, Nat.reduceSub, Nat.reduceMul, Nat.reduceLT, Nat.reduceLeDiff, Nat.reduceEqDiff, Int.cast_ofNat_Int, Std.le_refl, and_self, Int.toNat_natCast, Int.toNat_zero, Nat.le_refl]
  all_goals rfl
theorem L_t (h : LI L xs σ I A) (hL : L ≤ 2560) (hn : n + 5 ≤ L) : LT L xs σ I n := by
  obtain ⟨c, hc, h31⟩ := i31 (I 1000006 n)
  by_cases hc2 : 22 ≤ c
  · exact L_o h hL hn hc2 hc h31
  · rcases (show c = 0 ∨ c = 1 ∨ c = 2 ∨ c = 3 ∨ c = 4 ∨ c = 5 ∨ c = 6 ∨ c = 7 ∨ c = 8 ∨ c = 9 ∨ c = 10 ∨ c = 11 ∨ c = 12 ∨ c = 13 ∨ c = 14 ∨ c = 15 ∨ c = 16 ∨ c = 17 ∨ c = 18 ∨ c = 19 ∨ c = 20 ∨ c = 21 by omega) with rfl | rfl | rfl | rfl | rfl | rfl | rfl | rfl | rfl | rfl | rfl | rfl | rfl | rfl | rfl | rfl | rfl | rfl | rfl | rfl | rfl | rfl
    · exact L0 h hL hn h31
    · exact L1 h hL hn h31
    · exact L2 h hL hn h31
    · exact L3 h hL hn h31
    · exact L4 h hL hn h31
    · exact L5 h hL hn h31
    · exact L6 h hL hn h31
    · exact L7 h hL hn h31
    · exact L8 h hL hn h31
    · exact L9 h hL hn h31
    · exact L10 h hL hn h31
    · exact L11 h hL hn h31
    · exact L12 h hL hn h31
    · exact L13 h hL hn h31
    · exact L14 h hL hn h31
    · exact L15 h hL hn h31
    · exact L16 h hL hn h31
    · exact L17 h hL hn h31
    · exact L18 h hL hn h31
    · exact L19 h hL hn h31
    · exact L20 h hL hn h31
    · exact L21 h hL hn h31
theorem L_all (hL : L ≤ 2560) : ∀ (j n : Nat) (σ : Nat → Nat) (I : Nat → Nat → Int32) (A : AS), L < n + 5 * (j + 1) → n ≤ L + 5 → LI L xs σ I A → ∃ τ K, ∀ Q : Option Value → fb_H → Prop, ev_w 188 18 [.ref 1000006, .ref 0, .ref 102, .int (iI (n : Int))] [] (hp L σ I) Q = Q (some (.int (iI 1))) (hp L τ K)
  | 0, n, σ, I, A, h1, h2, h => by
    refine ⟨σ, I, fun Q => ?_⟩
    rw [u188_18]
    simp (disch := first | exact cat_i _ | exact cat_r _ | exact cat_n | omega) only [u188_19, u188_20, u188_21, u188_22, u188_23, u188_748, u188_749, hT_1000006, if_pos, if_neg, ↓reduceIte, false_and, and_false, false_or, or_false, ite_not, decide_true, decide_false, Bool.true_eq_false, Bool.false_eq_true, decide_eq_true_eq, decide_eq_false_iff_not, hp_I, hp_sI, hp_N, ev_k_s, ev_k_n, true_and, and_true, true_or, or_true, not_true_eq_false, not_false_eq_true, if_true, if_false, ite_self, Option.some.injEq, exists_eq_left', nb_0, nb_1, nb_z, zI_t, zI_f, zI_e, cat_i, cat_r, cat_n, iI_add, iI_sub, iI_mul, iI_neg, iI_lt, iI_le, iI_eq, iI_idx, iI_inT, iI_ne0, ite_false, ite_true, iN_0, iN_1, Int.reduceAdd, Int.reduceSub, Int.reduceMul, Int.reduceNeg, Int.reduceDiv, Int.reduceMod, Int.reduceEq, Int.reduceLT, Int.reduceLE, Int.reduceToNat, Nat.reduceAdd, Nat.reduceSub, Nat.reduceMul, Nat.reduceLT, Nat.reduceLeDiff, Nat.reduceEqDiff, Int.cast_ofNat_Int, Std.le_refl, and_self, Int.toNat_natCast, Int.toNat_zero, Nat.le_refl]
  | j + 1, n, σ, I, A, h1, h2, h => by
    by_cases q : n + 5 ≤ L
    · obtain ⟨τ, K, B, t1, t2⟩ := L_t h hL q
      obtain ⟨τ', K', r⟩ := L_all hL j (n + 5) τ K B (by omega) (by omega) t1
      exact ⟨τ', K', fun Q => (t2 Q).trans (r Q)⟩
    · refine ⟨σ, I, fun Q => ?_⟩
      rw [u188_18]
      simp (disch := first | exact cat_i _ | exact cat_r _ | exact cat_n | omega) only [u188_19, u188_20, u188_21, u188_22, u188_23, u188_748, u188_749, hT_1000006, if_pos, if_neg, ↓reduceIte, false_and, and_false, false_or, or_false, ite_not, decide_true, decide_false, Bool.true_eq_false, Bool.false_eq_true, decide_eq_true_eq, decide_eq_false_iff_not, hp_I, hp_sI, hp_N, ev_k_s, ev_k_n, true_and, and_true, true_or, or_true, not_true_eq_false, not_false_eq_true, if_true, if_false, ite_self, Option.some.injEq, exists_eq_left', nb_0, nb_1, nb_z, zI_t, zI_f, zI_e, cat_i, cat_r, cat_n, iI_add, iI_sub, iI_mul, iI_neg, iI_lt, iI_le, iI_eq, iI_idx, iI_inT, iI_ne0, ite_false, ite_true, iN_0, iN_1, Int.reduceAdd, Int.reduceSub, Int.reduceMul, Int.reduceNeg, Int.reduceDiv, Int.reduceMod, Int.reduceEq, Int.reduceLT, Int.reduceLE, Int.reduceToNat, Nat.reduceAdd, Nat.reduceSub, Nat.reduceMul, Nat.reduceLT, Nat.reduceLeDiff, Nat.reduceEqDiff, Int.cast_ofNat_Int, Std.le_refl, and_self, Int.toNat_natCast, Int.toNat_zero, Nat.le_refl]
end LW
