/-! the history -/
def siOK (σ : Nat → Nat) : Prop := (∀ k, k < 6 → σ k < 6) ∧ ∀ j k, j < 6 → k < 6 → σ j = σ k → j = k
def RepH (σ : Nat → Nat) (I : Nat → Nat → Int32) (H : List Co) : Prop := I 6 1 = iI (H.length : Int) ∧ H.length ≤ 6 ∧ (∀ S, S ∈ H → VS S) ∧ ∀ k, k < H.length → RepP I (8 + 5 * σ k) (H.getD k ((0, 0, 0), []))
def pus (H : List Co) (S : Co) : List Co := (if H.length = 6 then H.drop 1 else H) ++ [S]
section HI
variable {Q : Option Value → fb_H → Prop} {n : Nat} {L t y : Nat} {σ τ : Nat → Nat} {I : Nat → Nat → Int32} {S : Co} {H : List Co}
theorem hp_sR {k x : Nat} (hk : k < 6) : fb_sR (hp L σ I) 7 k (some (8 + 5 * x)) = hp L (fun j => if j = k then x else σ j) I := by
  unfold fb_sR hp
  refine Prod.ext rfl (Prod.ext rfl (Prod.ext ?_ rfl))
  funext i q
  show fb_u2 (hR0 σ) 7 k (some (8 + 5 * x)) i q = hR0 (fun j => if j = k then x else σ j) i q
  by_cases h1 : i = 7
  · subst h1
    by_cases h2 : q = k
    · subst h2
      simp [fb_u2, hR0, hk]
    · simp [fb_u2, hR0, h2]
  · simp [fb_u2, hR0, h1]
theorem isp_h {k : Nat} (h : σ k < 6) : isp (8 + 5 * σ k) := by
  unfold isp
  omega
theorem c1 (hr : RepH σ I H) : ev_c 1 [.ref 6] (hp L σ I) Q = Q (some (.int (iI (H.length : Int)))) (hp L σ I) := by
  simp (disch := first | exact cat_i _ | exact cat_r _ | exact cat_n | omega) only [e1, u1_0, u1_1, u1_4, hT_6, hr.1, ↓reduceIte, false_and, and_false, false_or, or_false, ite_not, decide_true, decide_false, Bool.true_eq_false, Bool.false_eq_true, decide_eq_true_eq, decide_eq_false_iff_not, hp_I, hp_sI, hp_N, ev_k_s, ev_k_n, true_and, and_true, true_or, or_true, not_true_eq_false, not_false_eq_true, if_true, if_false, ite_self, Option.some.injEq, exists_eq_left', nb_0, nb_1, nb_z, zI_t, zI_f, zI_e, cat_i, cat_r, cat_n, iI_add, iI_sub, iI_mul, iI_neg, iI_lt, iI_le, iI_eq, iI_idx, iI_inT, iI_ne0, ite_false, ite_true, iN_0, iN_1, Int.reduceAdd, Int.reduceSub, Int.reduceMul, Int.reduceNeg, Int.reduceDiv, Int.reduceMod, Int.reduceEq, Int.reduceLT, Int.reduceLE, Int.reduceToNat, Nat.reduceAdd, Nat.reduceSub, Nat.reduceMul, Nat.reduceLT, Nat.reduceLeDiff, Nat.reduceEqDiff, Int.cast_ofNat_Int, Std.le_refl, and_self, Int.toNat_natCast, Int.toNat_zero, Nat.le_refl]
theorem c3i (hs : siOK τ) {k : Nat} (hk : k < 5) {u : Nat} : ev_w 3 9 [.ref 6, .ref u, .int (iI ((k + 1 : Nat) : Int))] [] (hp L τ I) Q = ev_w 3 9 [.ref 6, .ref u, .int (iI ((k + 1 + 1 : Nat) : Int))] [] (hp L (fun j => if j = k then τ (k + 1) else τ j) I) Q := by
  have hT := hT_p (L := L) (σ := τ) (I := I) (isp_h (hs.1 (k + 1) (by omega)))
  have e1 : ((k + 1 : Nat) : Int).toNat = k + 1 := by omega
  have e2 : ((k + 1 : Nat) : Int) - 1 = (k : Int) := by omega
  rw [u3_9]
  simp (disch := first | exact cat_i _ | exact cat_r _ | exact cat_n | omega) only [u3_10, u3_12, u3_15, u3_16, u3_19, u3_20, u3_21, u3_22, u3_23, u3_26, u3_27, u3_28, u3_29, u3_32, hT_6, hT_7, hR_6_0, hR_7, e1, e2, hT, hp_sR, if_pos, if_neg, ↓reduceIte, false_and, and_false, false_or, or_false, ite_not, decide_true, decide_false, Bool.true_eq_false, Bool.false_eq_true, decide_eq_true_eq, decide_eq_false_iff_not, hp_I, hp_sI, hp_N, ev_k_s, ev_k_n, true_and, and_true, true_or, or_true, not_true_eq_false, not_false_eq_true, if_true, if_false, ite_self, Option.some.injEq, exists_eq_left', nb_0, nb_1, nb_z, zI_t, zI_f, zI_e, cat_i, cat_r, cat_n, iI_add, iI_sub, iI_mul, iI_neg, iI_lt, iI_le, iI_eq, iI_idx, iI_inT, iI_ne0, ite_false, ite_true, iN_0, iN_1, Int.reduceAdd, Int.reduceSub, Int.reduceMul, Int.reduceNeg, Int.reduceDiv, Int.reduceMod, Int.reduceEq, Int.reduceLT, Int.reduceLE, Int.reduceToNat, Nat.reduceAdd, Nat.reduceSub, Nat.reduceMul, Nat.reduceLT, Nat.reduceLeDiff, Nat.reduceEqDiff, Int.cast_ofNat_Int, Std.le_refl, and_self, Int.toNat_natCast, Int.toNat_zero, Nat.le_refl]
  rfl
theorem siOK_rot (hs : siOK σ) (h : (∀ j, j < 5 → τ j = σ (j + 1)) ∧ τ 5 = σ 0) : siOK τ := by
  obtain ⟨h1, h2⟩ := hs
  obtain ⟨h3, h4⟩ := h
  have f : ∀ k, k < 6 → τ k = σ ((k + 1) % 6) := fun k hk => by
    by_cases q : k = 5
    · subst q; exact h4
    · rw [h3 k (by omega), show (k + 1) % 6 = k + 1 by omega]
  refine ⟨fun k hk => by rw [f k hk]; exact h1 _ (by omega), fun j k hj hk e => ?_⟩
  rw [f j hj, f k hk] at e
  have := h2 _ _ (by omega) (by omega) e
  omega
theorem c3 (hs : siOK σ) : ∃ τ, siOK τ ∧ ((∀ j, j < 5 → τ j = σ (j + 1)) ∧ τ 5 = σ 0) ∧ ∀ Q : Option Value → fb_H → Prop, ev_c 3 [.ref 6] (hp L σ I) Q = Q none (hp L τ (fb_u2 I 6 1 (iI 5))) := by
  obtain ⟨τ, ⟨p1, p2⟩, e⟩ := lx (fun Q (τ : Nat → Nat) (k : Nat) => ev_w 3 9 [.ref 6, .ref (8 + 5 * σ 0), .int (iI ((k + 1 : Nat) : Int))] [] (hp L τ I) Q) (fun τ k => (∀ j, j < k → τ j = σ (j + 1)) ∧ ∀ j, k ≤ j → τ j = σ j) 5 (fun a k hk hp' => by
    obtain ⟨p1, p2⟩ := hp'
    have hT := hT_p (L := L) (σ := a) (I := I) (t := 8 + 5 * a (k + 1)) (isp_h (by rw [p2 _ (by omega)]; exact hs.1 _ (by omega)))
    have e1 : ((k + 1 : Nat) : Int).toNat = k + 1 := by omega
    have e2 : ((k + 1 : Nat) : Int) - 1 = (k : Int) := by omega
    refine ⟨fun j => if j = k then a (k + 1) else a j, ⟨fun j hj => ?_, fun j hj => ?_⟩, fun Q => ?_⟩
    · by_cases q : j = k
      · subst q; dsimp only; rw [if_pos rfl]; exact p2 _ (by omega)
      · dsimp only; rw [if_neg q]; exact p1 j (by omega)
    · dsimp only; rw [if_neg (by omega)]; exact p2 j (by omega)
    · show ev_w 3 9 [.ref 6, .ref (8 + 5 * σ 0), .int (iI ((k + 1 : Nat) : Int))] [] (hp L a I) Q = _
      rw [u3_9]
      simp (disch := first | exact cat_i _ | exact cat_r _ | exact cat_n | omega) only [u3_10, u3_12, u3_15, u3_16, u3_19, u3_20, u3_21, u3_22, u3_23, u3_26, u3_27, u3_28, u3_29, u3_32, hT_6, hT_7, hR_6_0, hR_7, e1, e2, hT, hp_sR, if_pos, if_neg, ↓reduceIte, false_and, and_false, false_or, or_false, ite_not, decide_true, decide_false, Bool.true_eq_false, Bool.false_eq_true, decide_eq_true_eq, decide_eq_false_iff_not, hp_I, hp_sI, hp_N, ev_k_s, ev_k_n, true_and, and_true, true_or, or_true, not_true_eq_false, not_false_eq_true, if_true, if_false, ite_self, Option.some.injEq, exists_eq_left', nb_0, nb_1, nb_z, zI_t, zI_f, zI_e, cat_i, cat_r, cat_n, iI_add, iI_sub, iI_mul, iI_neg, iI_lt, iI_le, iI_eq, iI_idx, iI_inT, iI_ne0, ite_false, ite_true, iN_0, iN_1, Int.reduceAdd, Int.reduceSub, Int.reduceMul, Int.reduceNeg, Int.reduceDiv, Int.reduceMod, Int.reduceEq, Int.reduceLT, Int.reduceLE, Int.reduceToNat, Nat.reduceAdd, Nat.reduceSub, Nat.reduceMul, Nat.reduceLT, Nat.reduceLeDiff, Nat.reduceEqDiff, Int.cast_ofNat_Int, Std.le_refl, and_self, Int.toNat_natCast, Int.toNat_zero, Nat.le_refl]
      rfl) 5 0 σ (by omega) ⟨fun j h => absurd h (Nat.not_lt_zero j), fun _ _ => rfl⟩
  have hrot : (∀ j, j < 5 → (fun j => if j = 5 then σ 0 else τ j) j = σ (j + 1)) ∧ (fun j => if j = 5 then σ 0 else τ j) 5 = σ 0 := ⟨fun j hj => by dsimp only; rw [if_neg (by omega)]; exact p1 j hj, if_pos rfl⟩
  refine ⟨fun j => if j = 5 then σ 0 else τ j, siOK_rot hs hrot, hrot, fun Q => ?_⟩
  have e0 := e Q
  clear e
  have hT := hT_p (L := L) (σ := τ) (I := I) (isp_h (hs.1 0 (by omega)))
  simp (disch := first | exact cat_i _ | exact cat_r _ | exact cat_n | omega) only [u3_0, u3_1, u3_4, u3_5, u3_6, u3_7, u3_8, e3, hT_6, hT_7, hR_6_0, hR_7, if_pos, if_neg, ↓reduceIte, false_and, and_false, false_or, or_false, ite_not, decide_true, decide_false, Bool.true_eq_false, Bool.false_eq_true, decide_eq_true_eq, decide_eq_false_iff_not, hp_I, hp_sI, hp_N, ev_k_s, ev_k_n, true_and, and_true, true_or, or_true, not_true_eq_false, not_false_eq_true, if_true, if_false, ite_self, Option.some.injEq, exists_eq_left', nb_0, nb_1, nb_z, zI_t, zI_f, zI_e, cat_i, cat_r, cat_n, iI_add, iI_sub, iI_mul, iI_neg, iI_lt, iI_le, iI_eq, iI_idx, iI_inT, iI_ne0, ite_false, ite_true, iN_0, iN_1, Int.reduceAdd, Int.reduceSub, Int.reduceMul, Int.reduceNeg, Int.reduceDiv, Int.reduceMod, Int.reduceEq, Int.reduceLT, Int.reduceLE, Int.reduceToNat, Nat.reduceAdd, Nat.reduceSub, Nat.reduceMul, Nat.reduceLT, Nat.reduceLeDiff, Nat.reduceEqDiff, Int.cast_ofNat_Int, Std.le_refl, and_self, Int.toNat_natCast, Int.toNat_zero, Nat.le_refl]
  refine Eq.trans e0 ?_
  show ev_w 3 9 [.ref 6, .ref (8 + 5 * σ 0), .int (iI 6)] [] (hp L τ I) Q = _
  simp (disch := first | exact cat_i _ | exact cat_r _ | exact cat_n | omega) only [u3_9, u3_10, u3_12, u3_35, u3_36, u3_39, u3_40, u3_41, u3_42, u3_43, u3_44, u3_47, hT_6, hT_7, hR_6_0, hT, hp_sR, if_pos, if_neg, ↓reduceIte, false_and, and_false, false_or, or_false, ite_not, decide_true, decide_false, Bool.true_eq_false, Bool.false_eq_true, decide_eq_true_eq, decide_eq_false_iff_not, hp_I, hp_sI, hp_N, ev_k_s, ev_k_n, true_and, and_true, true_or, or_true, not_true_eq_false, not_false_eq_true, if_true, if_false, ite_self, Option.some.injEq, exists_eq_left', nb_0, nb_1, nb_z, zI_t, zI_f, zI_e, cat_i, cat_r, cat_n, iI_add, iI_sub, iI_mul, iI_neg, iI_lt, iI_le, iI_eq, iI_idx, iI_inT, iI_ne0, ite_false, ite_true, iN_0, iN_1, Int.reduceAdd, Int.reduceSub, Int.reduceMul, Int.reduceNeg, Int.reduceDiv, Int.reduceMod, Int.reduceEq, Int.reduceLT, Int.reduceLE, Int.reduceToNat, Nat.reduceAdd, Nat.reduceSub, Nat.reduceMul, Nat.reduceLT, Nat.reduceLeDiff, Nat.reduceEqDiff, Int.cast_ofNat_Int, Std.le_refl, and_self, Int.toNat_natCast, Int.toNat_zero, Nat.le_refl]
theorem c2 (hs : siOK σ) (hH : RepH σ I H) (hr : RepP I 1 S) (hv : VS S) : ∃ τ J, (∀ Q : Option Value → fb_H → Prop, ev_c 2 [.ref 6, .ref 1] (hp L σ I) Q = Q none (hp L τ J)) ∧ siOK τ ∧ RepH τ J (pus H S) ∧ ∀ i q, (i < 6 ∨ 38 ≤ i) → J i q = I i q := by
  -- what comes behind a place that is free
  have tail : ∀ (τ : Nat → Nat) (A : Nat → Nat → Int32) (G : List Co), siOK τ → RepH τ A G → G.length < 6 → (∀ i q, (i < 6 ∨ 38 ≤ i) → A i q = I i q) → ∃ J, (∀ Q : Option Value → fb_H → Prop, ev_w 2 13 [.ref 6, .ref 1] [] (hp L τ A) Q = Q none (hp L τ J)) ∧ RepH τ J (G ++ [S]) ∧ ∀ i q, (i < 6 ∨ 38 ≤ i) → J i q = I i q := fun τ A G hs hG hl hA => by
    obtain ⟨g1, g2, g3, g4⟩ := hG
    have hlt := hs.1 G.length hl
    have hrA : RepP A 1 S := RepP_o hr fun i q _ _ => hA i q (by omega)
    obtain ⟨B, b1, b2, b3⟩ := c47 (L := L) (σ := τ) (isp_h hlt) (Or.inl rfl) (by omega) hrA hv
    have hT := hT_p (L := L) (σ := τ) (I := A) (isp_h hlt)
    have eB : B 6 1 = iI (G.length : Int) := (b3 _ _ (by omega)).trans g1
    refine ⟨fb_u2 B 6 1 (iI ((G.length : Int) + 1)), fun Q => ?_, ⟨?_, ?_, ?_, fun k hk => ?_⟩, fun i q hi => ?_⟩
    · simp (disch := first | exact cat_i _ | exact cat_r _ | exact cat_n | omega) only [u2_13, u2_14, u2_17, u2_18, u2_21, u2_22, u2_23, u2_26, u2_27, u2_28, u2_31, u2_32, u2_33, u2_36, hT_6, hT_7, hR_6_0, hR_7, g1, hT, b1, eB, if_pos, if_neg, ↓reduceIte, false_and, and_false, false_or, or_false, ite_not, decide_true, decide_false, Bool.true_eq_false, Bool.false_eq_true, decide_eq_true_eq, decide_eq_false_iff_not, hp_I, hp_sI, hp_N, ev_k_s, ev_k_n, true_and, and_true, true_or, or_true, not_true_eq_false, not_false_eq_true, if_true, if_false, ite_self, Option.some.injEq, exists_eq_left', nb_0, nb_1, nb_z, zI_t, zI_f, zI_e, cat_i, cat_r, cat_n, iI_add, iI_sub, iI_mul, iI_neg, iI_lt, iI_le, iI_eq, iI_idx, iI_inT, iI_ne0, ite_false, ite_true, iN_0, iN_1, Int.reduceAdd, Int.reduceSub, Int.reduceMul, Int.reduceNeg, Int.reduceDiv, Int.reduceMod, Int.reduceEq, Int.reduceLT, Int.reduceLE, Int.reduceToNat, Nat.reduceAdd, Nat.reduceSub, Nat.reduceMul, Nat.reduceLT, Nat.reduceLeDiff, Nat.reduceEqDiff, Int.cast_ofNat_Int, Std.le_refl, and_self, Int.toNat_natCast, Int.toNat_zero, Nat.le_refl]
    · rw [u2_eq, List.length_append]; rfl
    · rw [List.length_append]; show G.length + 1 ≤ 6; omega
    · intro X hX
      rcases List.mem_append.mp hX with h | h
      · exact g3 X h
      · rw [List.mem_singleton.mp h]; exact hv
    · rw [List.length_append] at hk
      have hk2 : k < G.length + 1 := hk
      rw [List.getD_eq_getElem?_getD]
      by_cases q : k = G.length
      · subst q
        rw [List.getElem?_append_right (Nat.le_refl _), Nat.sub_self]
        exact RepP_o b2 fun i q _ _ => u2_ne (by omega)
      · rw [List.getElem?_append_left (by omega), ← List.getD_eq_getElem?_getD]
        have hne : τ k ≠ τ G.length := fun e => q (hs.2 _ _ (by omega) hl e)
        have hk6 := hs.1 k (by omega)
        exact RepP_o (g4 k (by omega)) fun i q _ _ => (u2_ne (by omega)).trans (b3 i q (by omega))
    · exact (u2_ne (by omega)).trans ((b3 i q (by omega)).trans (hA i q hi))
  obtain ⟨g1, g2, g3, g4⟩ := id hH
  by_cases h6 : H.length = 6
  · obtain ⟨τ, t1, ⟨t2, t3⟩, t4⟩ := c3 (L := L) (I := I) hs
    have hD : RepH τ (fb_u2 I 6 1 (iI 5)) (H.drop 1) := by
      refine ⟨by rw [u2_eq, List.length_drop, h6]; rfl, by rw [List.length_drop]; omega, fun X hX => g3 X (List.mem_of_mem_drop hX), fun k hk => ?_⟩
      rw [List.length_drop] at hk
      rw [List.getD_eq_getElem?_getD, List.getElem?_drop, ← List.getD_eq_getElem?_getD, t2 k (by omega), Nat.add_comm 1 k]
      exact RepP_o (g4 (k + 1) (by omega)) fun i q _ _ => u2_ne (by omega)
    obtain ⟨J, j1, j2, j3⟩ := tail τ (fb_u2 I 6 1 (iI 5)) (H.drop 1) t1 hD (by rw [List.length_drop]; omega) (fun i q hi => u2_ne (by omega))
    refine ⟨τ, J, fun Q => ?_, t1, by unfold pus; rw [if_pos h6]; exact j2, j3⟩
    rw [h6] at g1
    simp (disch := first | exact cat_i _ | exact cat_r _ | exact cat_n | omega) only [u2_0, u2_1, u2_4, u2_6, u2_9, u2_10, e2, hT_6, g1, t4, j1, if_pos, if_neg, ↓reduceIte, false_and, and_false, false_or, or_false, ite_not, decide_true, decide_false, Bool.true_eq_false, Bool.false_eq_true, decide_eq_true_eq, decide_eq_false_iff_not, hp_I, hp_sI, hp_N, ev_k_s, ev_k_n, true_and, and_true, true_or, or_true, not_true_eq_false, not_false_eq_true, if_true, if_false, ite_self, Option.some.injEq, exists_eq_left', nb_0, nb_1, nb_z, zI_t, zI_f, zI_e, cat_i, cat_r, cat_n, iI_add, iI_sub, iI_mul, iI_neg, iI_lt, iI_le, iI_eq, iI_idx, iI_inT, iI_ne0, ite_false, ite_true, iN_0, iN_1, Int.reduceAdd, Int.reduceSub, Int.reduceMul, Int.reduceNeg, Int.reduceDiv, Int.reduceMod, Int.reduceEq, Int.reduceLT, Int.reduceLE, Int.reduceToNat, Nat.reduceAdd, Nat.reduceSub, Nat.reduceMul, Nat.reduceLT, Nat.reduceLeDiff, Nat.reduceEqDiff, Int.cast_ofNat_Int, Std.le_refl, and_self, Int.toNat_natCast, Int.toNat_zero, Nat.le_refl]
  · obtain ⟨J, j1, j2, j3⟩ := tail σ I H hs hH (by omega) (fun _ _ _ => rfl)
    refine ⟨σ, J, fun Q => ?_, hs, by unfold pus; rw [if_neg h6]; exact j2, j3⟩
    simp (disch := first | exact cat_i _ | exact cat_r _ | exact cat_n | omega) only [u2_0, u2_1, u2_4, u2_6, u2_9, u2_10, e2, hT_6, g1, j1, if_pos, if_neg, ↓reduceIte, false_and, and_false, false_or, or_false, ite_not, decide_true, decide_false, Bool.true_eq_false, Bool.false_eq_true, decide_eq_true_eq, decide_eq_false_iff_not, hp_I, hp_sI, hp_N, ev_k_s, ev_k_n, true_and, and_true, true_or, or_true, not_true_eq_false, not_false_eq_true, if_true, if_false, ite_self, Option.some.injEq, exists_eq_left', nb_0, nb_1, nb_z, zI_t, zI_f, zI_e, cat_i, cat_r, cat_n, iI_add, iI_sub, iI_mul, iI_neg, iI_lt, iI_le, iI_eq, iI_idx, iI_inT, iI_ne0, ite_false, ite_true, iN_0, iN_1, Int.reduceAdd, Int.reduceSub, Int.reduceMul, Int.reduceNeg, Int.reduceDiv, Int.reduceMod, Int.reduceEq, Int.reduceLT, Int.reduceLE, Int.reduceToNat, Nat.reduceAdd, Nat.reduceSub, Nat.reduceMul, Nat.reduceLT, Nat.reduceLeDiff, Nat.reduceEqDiff, Int.cast_ofNat_Int, Std.le_refl, and_self, Int.toNat_natCast, Int.toNat_zero, Nat.le_refl]
theorem c4 (hs : siOK σ) (hH : RepH σ I (H ++ [S])) : ∃ J, (∀ Q : Option Value → fb_H → Prop, ev_c 4 [.ref 6, .ref 1] (hp L σ I) Q = Q none (hp L σ J)) ∧ RepH σ J H ∧ RepP J 1 S ∧ VS S ∧ ∀ i q, (i < 1 ∨ (6 ≤ i ∧ i ≠ 6)) → J i q = I i q := by
  obtain ⟨g1, g2, g3, g4⟩ := hH
  rw [List.length_append] at g1 g2 g4
  have hlen : H.length + [S].length = H.length + 1 := rfl
  rw [hlen] at g1 g2 g4
  have hv : VS S := g3 S (List.mem_append.mpr (Or.inr (List.mem_singleton.mpr rfl)))
  have hlt := hs.1 H.length (by omega)
  have hS : RepP I (8 + 5 * σ H.length) S := by
    have := g4 H.length (by omega)
    rw [List.getD_eq_getElem?_getD, List.getElem?_append_right (Nat.le_refl _), Nat.sub_self] at this
    exact this
  have hS' : RepP (fb_u2 I 6 1 (iI (H.length : Int))) (8 + 5 * σ H.length) S := RepP_o hS fun i q _ _ => u2_ne (by omega)
  obtain ⟨B, b1, b2, b3⟩ := c47 (L := L) (σ := σ) (t := 1) (Or.inl rfl) (isp_h hlt) (by omega) hS' hv
  have hT := hT_p (L := L) (σ := σ) (I := fb_u2 I 6 1 (iI (H.length : Int))) (isp_h hlt)
  have e1 : ((H.length + 1 : Nat) : Int) - 1 = (H.length : Int) := by omega
  have e2 : fb_u2 I 6 1 (iI (H.length : Int)) 6 1 = iI (H.length : Int) := u2_eq
  refine ⟨B, fun Q => ?_, ⟨(b3 _ _ (by omega)).trans u2_eq, by omega, fun X hX => g3 X (List.mem_append.mpr (Or.inl hX)), fun k hk => ?_⟩, b2, hv, fun i q hi => (b3 i q (by omega)).trans (u2_ne (by omega))⟩
  · simp (disch := first | exact cat_i _ | exact cat_r _ | exact cat_n | omega) only [e4, u4_0, u4_1, u4_4, u4_7, u4_8, u4_9, u4_12, u4_13, u4_14, u4_17, u4_18, u4_19, u4_22, u4_23, u4_26, u4_27, u4_30, hT_6, hT_7, hT_1, hR_6_0, hR_7, g1, e1, e2, hT, b1, if_pos, if_neg, ↓reduceIte, false_and, and_false, false_or, or_false, ite_not, decide_true, decide_false, Bool.true_eq_false, Bool.false_eq_true, decide_eq_true_eq, decide_eq_false_iff_not, hp_I, hp_sI, hp_N, ev_k_s, ev_k_n, true_and, and_true, true_or, or_true, not_true_eq_false, not_false_eq_true, if_true, if_false, ite_self, Option.some.injEq, exists_eq_left', nb_0, nb_1, nb_z, zI_t, zI_f, zI_e, cat_i, cat_r, cat_n, iI_add, iI_sub, iI_mul, iI_neg, iI_lt, iI_le, iI_eq, iI_idx, iI_inT, iI_ne0, ite_false, ite_true, iN_0, iN_1, Int.reduceAdd, Int.reduceSub, Int.reduceMul, Int.reduceNeg, Int.reduceDiv, Int.reduceMod, Int.reduceEq, Int.reduceLT, Int.reduceLE, Int.reduceToNat, Nat.reduceAdd, Nat.reduceSub, Nat.reduceMul, Nat.reduceLT, Nat.reduceLeDiff, Nat.reduceEqDiff, Int.cast_ofNat_Int, Std.le_refl, and_self, Int.toNat_natCast, Int.toNat_zero, Nat.le_refl]
  · have := g4 k (by omega)
    rw [List.getD_eq_getElem?_getD, List.getElem?_append_left (by omega), ← List.getD_eq_getElem?_getD] at this
    have hk6 := hs.1 k (by omega)
    exact RepP_o this fun i q _ _ => (b3 i q (by omega)).trans (u2_ne (by omega))
end HI
