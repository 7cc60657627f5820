def jok (S : Co) (c : Nat) (v w : Nat × Nat × Nat) : Bool := ((ch S c).2.2.isSome && (ch S (c + 1)).2.2.isSome) || decide (bhd S.1.1 S.1.2.2 (ch S c).1 v (ch S (c + 1)).1 w (tn S (c + 1)) = 0)
def wst (S : Co) (c : Nat) (v : Nat × Nat × Nat) (g : Nat → Nat) (a : Nat × Option Nat) (q : Nat) : Nat × Option Nat := if dst v ((chl S (c + 1)).getD q (0, 0, 0)) + g q < a.1 ∧ jok S c v ((chl S (c + 1)).getD q (0, 0, 0)) = true then (dst v ((chl S (c + 1)).getD q (0, 0, 0)) + g q, some q) else a
def wgh (S : Co) (c : Nat) (v : Nat × Nat × Nat) (g : Nat → Nat) : Nat × Option Nat := (List.range (chl S (c + 1)).length).foldl (wst S c v g) (1000000, none)
def tgf (S : Co) : Nat → Nat → Nat × Option Nat
  | 0, _ => (0, none)
  | d + 1, r => wgh S (S.2.length - 2 - d) ((chl S (S.2.length - 2 - d)).getD r (0, 0, 0)) (fun q => (tgf S d q).1)
def tgc (S : Co) (c r : Nat) : Nat × Option Nat := tgf S (S.2.length - 1 - c) r
theorem tgc_last {S : Co} {c r : Nat} (h : c + 1 = S.2.length) : tgc S c r = (0, none) := by
  unfold tgc
  rw [show S.2.length - 1 - c = 0 by omega]
  rfl
theorem tgc_step {S : Co} {c r : Nat} (h : c + 1 < S.2.length) : tgc S c r = wgh S c ((chl S c).getD r (0, 0, 0)) (fun q => (tgc S (c + 1) q).1) := by
  unfold tgc
  rw [show S.2.length - 1 - c = (S.2.length - 1 - (c + 1)) + 1 by omega]
  show wgh S (S.2.length - 2 - (S.2.length - 1 - (c + 1))) _ _ = _
  rw [show S.2.length - 2 - (S.2.length - 1 - (c + 1)) = c by omega]
theorem wst_le (S : Co) (c : Nat) (v : Nat × Nat × Nat) (g : Nat → Nat) (a : Nat × Option Nat) (q : Nat) (h : a.1 ≤ 1000000) : (wst S c v g a q).1 ≤ 1000000 := by
  unfold wst
  split
  · dsimp only; omega
  · exact h
theorem wgh_le (S : Co) (c : Nat) (v : Nat × Nat × Nat) (g : Nat → Nat) : (wgh S c v g).1 ≤ 1000000 := (lf0 (fun _ _ => True) (wst S c v g) (fun a _ => a.1 ≤ 1000000) (chl S (c + 1)).length (fun a k _ h => ⟨wst_le S c v g a k h, rfl⟩) (1000000, none) (Nat.le_refl _)).2
theorem tgc_le (S : Co) (c r : Nat) : (tgc S c r).1 ≤ 1000000 := by
  unfold tgc
  cases S.2.length - 1 - c with
  | zero => exact Nat.zero_le _
  | succ d => exact wgh_le ..
section WE
variable {Q : Option Value → fb_H → Prop} {n : Nat} {L t y : Nat} {σ : Nat → Nat} {I : Nat → Nat → Int32} {S : Co} {l : List (Nat × Nat × Nat)}
theorem chl_V (hv : VS S) {c : Nat} {J : Nat → Nat → Int32} (h : RepV J y (chl S c)) {q : Nat} (hq : q < (chl S c).length) : VV ((chl S c).getD q (0, 0, 0)) := RepV_in h hq
theorem RepV_o {J K : Nat → Nat → Int32} (h : RepV J y l) (ho : ∀ q, K y q = J y q ∧ K (y + 1) q = J (y + 1) q) : RepV K y l := ⟨(ho 1).1.trans h.1, h.2.1, h.2.2.1, fun k hk => (ho k).2.trans (h.2.2.2 k hk)⟩
theorem c52i (ht : isp t) (hv : VS S) {c r k : Nat} (hc : c + 1 < S.2.length) (hr20 : r < 20) {v : Nat × Nat × Nat} (hvv : VV v) {J : Nat → Nat → Int32} (hr : RepP J t S) (hs : StI J) (hw : RepV J (82 + 2 * (c + 1)) (chl S (c + 1))) (hk : k < (chl S (c + 1)).length) {g : Nat → Nat} (hg : J (61 + (c + 1)) k = iI (g k : Int)) (hg2 : g k ≤ 1000000) {a : Nat × Option Nat} (ha : a.1 ≤ 1000000) {x11 x12 : Value} (hx11 : x11.category = 1) (hx12 : x12.category = 1) : ∃ K y11 y12, y11.category = 1 ∧ y12.category = 1 ∧ (∀ i q, ¬ (i = 72 + c ∧ q = r) → K i q = J i q) ∧ (if (wst S c v g a k).2 = a.2 then K (72 + c) r = J (72 + c) r ∨ (wst S c v g a k).2 = some k ∧ K (72 + c) r = iI (k : Int) else (wst S c v g a k).2 = some k ∧ K (72 + c) r = iI (k : Int)) ∧ ∀ Q : Option Value → fb_H → Prop, ev_w 52 84 [.ref 58, .ref t, .int (iI (c : Int)), .int (iI (r : Int)), .int (iI ((c + 1 : Nat) : Int)), .int (iI ((pkv v : Nat) : Int)), .int (iI ((pk4 (ch S c).1 v : Nat) : Int)), .int (iI ((tn S (c + 1) : Nat) : Int)), .int (zI ((ch S c).2.2.isSome && (ch S (c + 1)).2.2.isSome)), .int (iI (a.1 : Int)), .int (iI (k : Int)), x11, x12] [] (hp L σ J) Q = ev_w 52 84 [.ref 58, .ref t, .int (iI (c : Int)), .int (iI (r : Int)), .int (iI ((c + 1 : Nat) : Int)), .int (iI ((pkv v : Nat) : Int)), .int (iI ((pk4 (ch S c).1 v : Nat) : Int)), .int (iI ((tn S (c + 1) : Nat) : Int)), .int (zI ((ch S c).2.2.isSome && (ch S (c + 1)).2.2.isSome)), .int (iI ((wst S c v g a k).1 : Int)), .int (iI ((k + 1 : Nat) : Int)), y11, y12] [] (hp L σ K) Q := by
  have hl := hv.2.2.2.1
  have h20 := hw.2.1
  have hcc := hv.2.2.2.2 c (by omega)
  have hcn := hv.2.2.2.2 (c + 1) hc
  have hb1 := hcc.2.1
  have hb2 := hcn.2.1
  have htn : tn S (c + 1) < 4096 := tns_lt _ _ _
  have hww := RepV_in hw hk
  have hd := dst_lt hvv hww
  have hs71 := isv_w (k := c + 1) (by omega)
  have e57 := fun Q => c57 (L := L) (σ := σ) (Q := Q) ht hr hv hs (show (ch S c).1 ≤ 99 by omega) hvv (show (ch S (c + 1)).1 ≤ 99 by omega) hww htn
  have e33 := fun Q => c33 (L := L) (σ := σ) (Q := Q) ht hr hv hc hww
  have e71 := fun Q => c71 (L := L) (σ := σ) (Q := Q) hs71 hw
  have e72 := fun Q => c72 (L := L) (σ := σ) (Q := Q) hs71 hw hk
  have e111 := fun Q h => c111 (Q := Q) (h := h) hvv hww
  have hT := hT_v (L := L) (σ := σ) (I := J) hs71
  obtain ⟨z, hz, hz2⟩ := bhd_in S.1.1 S.1.2.2 (ch S c).1 v (ch S (c + 1)).1 ((chl S (c + 1)).getD k (0, 0, 0)) (tn S (c + 1))
  generalize hW : (chl S (c + 1)).getD k (0, 0, 0) = w at *
  generalize hB : bhd S.1.1 S.1.2.2 (ch S c).1 v (ch S (c + 1)).1 w (tn S (c + 1)) = B at *
  have hg' : ((dst v w : Nat) : Int) + (g k : Int) = ((dst v w + g k : Nat) : Int) := by omega
  by_cases q1 : dst v w + g k < a.1
  · cases q2 : jok S c v w with
    | true =>
      have e : wst S c v g a k = (dst v w + g k, some k) := by unfold wst; rw [hW, if_pos ⟨q1, q2⟩]
      rw [e]
      refine ⟨fb_u2 J (72 + c) r (iI (k : Int)), .int (iI ((pkv w : Nat) : Int)), .int (iI ((dst v w + g k : Nat) : Int)), cat_i _, cat_i _, fun i q h => u2_ne (by omega), ?_, fun Q => ?_⟩
      · split
        · exact Or.inr ⟨rfl, u2_eq⟩
        · exact ⟨rfl, u2_eq⟩
      · rw [u52_84]
        unfold jok at q2
        rw [hB] at q2
        cases hbg : ((ch S c).2.2.isSome && (ch S (c + 1)).2.2.isSome) with
        | true =>
          simp (disch := first | exact hx11 | exact hx12 | exact cat_i _ | omega) only [u52_86, u52_87, u52_90, u52_92, u52_93, u52_96, u52_99, u52_100, u52_103, u52_105, u52_106, u52_108, u52_111, u52_113, u52_115, u52_117, u52_120, u52_121, u52_124, u52_126, u52_127, u52_129, u52_130, u52_131, u52_133, u52_135, u52_137, u52_140, u52_142, u52_145, u52_146, u52_148, u52_149, u52_151, u52_153, u52_156, u52_158, u52_161, u52_164, u52_166, u52_168, u52_169, u52_172, u52_173, u52_174, u52_175, u52_177, u52_178, u52_181, hT_p ht, hT_58, hT_59, hT_60, hT_71, hR_58_0, hR_58_1, hR_58_2, hR_59, hR_60, hR_71, hT, hT_61k, hT_72k, e71, e72, e111, hg, hg', if_pos, if_neg, ↓reduceIte, false_and, and_false, false_or, or_false, ite_not, decide_true, decide_false, Bool.true_eq_false, Bool.false_eq_true, decide_eq_true_eq, decide_eq_false_iff_not, hp_I, hp_sI, hp_N, ev_k_s, ev_k_n, true_and, and_true, true_or, or_true, not_true_eq_false, not_false_eq_true, if_true, if_false, ite_self, Option.some.injEq, exists_eq_left', nb_0, nb_1, nb_z, zI_t, zI_f, zI_e, cat_i, cat_r, cat_n, iI_add, iI_sub, iI_mul, iI_neg, iI_lt, iI_le, iI_eq, iI_idx, iI_inT, iI_ne0, ite_false, ite_true, iN_0, iN_1, Int.reduceAdd, Int.reduceSub, Int.reduceMul, Int.reduceNeg, Int.reduceDiv, Int.reduceMod, Int.reduceEq, Int.reduceLT, Int.reduceLE, Int.reduceToNat, Nat.reduceAdd, Nat.reduceSub, Nat.reduceMul, Nat.reduceLT, Nat.reduceLeDiff, Nat.reduceEqDiff, Int.cast_ofNat_Int, Std.le_refl, and_self, Int.toNat_natCast, Int.toNat_zero, Nat.le_refl]
          rfl
        | false =>
          rw [hbg, Bool.false_or, decide_eq_true_eq] at q2
          simp (disch := first | exact hx11 | exact hx12 | exact cat_i _ | omega) only [u52_86, u52_87, u52_90, u52_92, u52_93, u52_96, u52_99, u52_100, u52_103, u52_105, u52_106, u52_108, u52_111, u52_113, u52_115, u52_117, u52_120, u52_121, u52_124, u52_126, u52_127, u52_129, u52_130, u52_131, u52_133, u52_135, u52_137, u52_140, u52_142, u52_145, u52_146, u52_148, u52_149, u52_151, u52_153, u52_156, u52_158, u52_161, u52_164, u52_166, u52_168, u52_169, u52_172, u52_173, u52_174, u52_175, u52_177, u52_178, u52_181, hT_p ht, hT_58, hT_59, hT_60, hT_71, hR_58_0, hR_58_1, hR_58_2, hR_59, hR_60, hR_71, hT, hT_61k, hT_72k, e71, e72, e111, e33, e57, hB, q2, hg, hg', if_pos, if_neg, ↓reduceIte, false_and, and_false, false_or, or_false, ite_not, decide_true, decide_false, Bool.true_eq_false, Bool.false_eq_true, decide_eq_true_eq, decide_eq_false_iff_not, hp_I, hp_sI, hp_N, ev_k_s, ev_k_n, true_and, and_true, true_or, or_true, not_true_eq_false, not_false_eq_true, if_true, if_false, ite_self, Option.some.injEq, exists_eq_left', nb_0, nb_1, nb_z, zI_t, zI_f, zI_e, cat_i, cat_r, cat_n, iI_add, iI_sub, iI_mul, iI_neg, iI_lt, iI_le, iI_eq, iI_idx, iI_inT, iI_ne0, ite_false, ite_true, iN_0, iN_1, Int.reduceAdd, Int.reduceSub, Int.reduceMul, Int.reduceNeg, Int.reduceDiv, Int.reduceMod, Int.reduceEq, Int.reduceLT, Int.reduceLE, Int.reduceToNat, Nat.reduceAdd, Nat.reduceSub, Nat.reduceMul, Nat.reduceLT, Nat.reduceLeDiff, Nat.reduceEqDiff, Int.cast_ofNat_Int, Std.le_refl, and_self, Int.toNat_natCast, Int.toNat_zero, Nat.le_refl]
          rfl
    | false =>
      have e : wst S c v g a k = a := by unfold wst; rw [hW, if_neg (fun w => by rw [q2] at w; exact absurd w.2 (by decide))]
      rw [e]
      refine ⟨J, .int (iI ((pkv w : Nat) : Int)), .int (iI ((dst v w + g k : Nat) : Int)), cat_i _, cat_i _, fun _ _ _ => rfl, by rw [if_pos rfl]; exact Or.inl rfl, fun Q => ?_⟩
      unfold jok at q2
      rw [hB, Bool.or_eq_false_iff, decide_eq_false_iff_not] at q2
      rw [u52_84, q2.1]
      simp (disch := first | exact hx11 | exact hx12 | exact cat_i _ | omega) only [u52_86, u52_87, u52_90, u52_92, u52_93, u52_96, u52_99, u52_100, u52_103, u52_105, u52_106, u52_108, u52_111, u52_113, u52_115, u52_117, u52_120, u52_121, u52_124, u52_126, u52_127, u52_129, u52_130, u52_131, u52_133, u52_135, u52_137, u52_140, u52_142, u52_145, u52_146, u52_148, u52_149, u52_151, u52_153, u52_156, u52_158, u52_161, u52_164, u52_166, u52_168, u52_169, u52_172, u52_173, u52_174, u52_175, u52_177, u52_178, u52_181, hT_p ht, hT_58, hT_59, hT_60, hT_71, hR_58_0, hR_58_1, hR_58_2, hR_59, hR_60, hR_71, hT, hT_61k, hT_72k, e71, e72, e111, e33, e57, hB, hg, hg', if_pos, if_neg, ↓reduceIte, false_and, and_false, false_or, or_false, ite_not, decide_true, decide_false, Bool.true_eq_false, Bool.false_eq_true, decide_eq_true_eq, decide_eq_false_iff_not, hp_I, hp_sI, hp_N, ev_k_s, ev_k_n, true_and, and_true, true_or, or_true, not_true_eq_false, not_false_eq_true, if_true, if_false, ite_self, Option.some.injEq, exists_eq_left', nb_0, nb_1, nb_z, zI_t, zI_f, zI_e, cat_i, cat_r, cat_n, iI_add, iI_sub, iI_mul, iI_neg, iI_lt, iI_le, iI_eq, iI_idx, iI_inT, iI_ne0, ite_false, ite_true, iN_0, iN_1, Int.reduceAdd, Int.reduceSub, Int.reduceMul, Int.reduceNeg, Int.reduceDiv, Int.reduceMod, Int.reduceEq, Int.reduceLT, Int.reduceLE, Int.reduceToNat, Nat.reduceAdd, Nat.reduceSub, Nat.reduceMul, Nat.reduceLT, Nat.reduceLeDiff, Nat.reduceEqDiff, Int.cast_ofNat_Int, Std.le_refl, and_self, Int.toNat_natCast, Int.toNat_zero, Nat.le_refl]
      rfl
  · have e : wst S c v g a k = a := by unfold wst; rw [hW, if_neg (fun w => q1 w.1)]
    rw [e]
    refine ⟨J, .int (iI ((pkv w : Nat) : Int)), .int (iI ((dst v w + g k : Nat) : Int)), cat_i _, cat_i _, fun _ _ _ => rfl, by rw [if_pos rfl]; exact Or.inl rfl, fun Q => ?_⟩
    rw [u52_84]
    simp (disch := first | exact hx11 | exact hx12 | exact cat_i _ | omega) only [u52_86, u52_87, u52_90, u52_92, u52_93, u52_96, u52_99, u52_100, u52_103, u52_105, u52_106, u52_108, u52_111, u52_113, u52_115, u52_117, u52_120, u52_121, u52_124, u52_126, u52_127, u52_129, u52_130, u52_131, u52_133, u52_135, u52_137, u52_140, u52_142, u52_145, u52_146, u52_148, u52_149, u52_151, u52_153, u52_156, u52_158, u52_161, u52_164, u52_166, u52_168, u52_169, u52_172, u52_173, u52_174, u52_175, u52_177, u52_178, u52_181, hT_p ht, hT_58, hT_59, hT_60, hT_71, hR_58_0, hR_58_1, hR_58_2, hR_59, hR_60, hR_71, hT, hT_61k, hT_72k, e71, e72, e111, hg, hg', if_pos, if_neg, ↓reduceIte, false_and, and_false, false_or, or_false, ite_not, decide_true, decide_false, Bool.true_eq_false, Bool.false_eq_true, decide_eq_true_eq, decide_eq_false_iff_not, hp_I, hp_sI, hp_N, ev_k_s, ev_k_n, true_and, and_true, true_or, or_true, not_true_eq_false, not_false_eq_true, if_true, if_false, ite_self, Option.some.injEq, exists_eq_left', nb_0, nb_1, nb_z, zI_t, zI_f, zI_e, cat_i, cat_r, cat_n, iI_add, iI_sub, iI_mul, iI_neg, iI_lt, iI_le, iI_eq, iI_idx, iI_inT, iI_ne0, ite_false, ite_true, iN_0, iN_1, Int.reduceAdd, Int.reduceSub, Int.reduceMul, Int.reduceNeg, Int.reduceDiv, Int.reduceMod, Int.reduceEq, Int.reduceLT, Int.reduceLE, Int.reduceToNat, Nat.reduceAdd, Nat.reduceSub, Nat.reduceMul, Nat.reduceLT, Nat.reduceLeDiff, Nat.reduceEqDiff, Int.cast_ofNat_Int, Std.le_refl, and_self, Int.toNat_natCast, Int.toNat_zero, Nat.le_refl]
    rfl
end WE
