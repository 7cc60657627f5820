theorem rdV_in {T : List Nat} {k : Nat} {v : (Nat × Nat × Nat) × Nat} (hv : rdV T k = .inr v) : VV v.1 := by
  unfold rdV at hv
  cases q1 : rdN T k with
  | none => rw [q1] at hv; cases hv
  | some x =>
    rw [q1] at hv
    dsimp only at hv
    split at hv
    · cases q2 : rdN T (x.2 + 1) with
      | none => rw [q2] at hv; cases hv
      | some y =>
        rw [q2] at hv
        dsimp only at hv
        split at hv
        · cases q3 : rdN T (y.2 + 1) with
          | none => rw [q3] at hv; cases hv
          | some z =>
            rw [q3] at hv
            cases hv
            exact ⟨(rdN_in q1).1, (rdN_in q2).1, (rdN_in q3).1⟩
        · cases hv
    · cases hv
/-- a chord that was read -/
def VR (x : Ch) : Prop := x.1 ≤ 99 ∧ isFig x.2.1 ∧ ∀ v, x.2.2 = some v → VV v
theorem rdE_ok {T : List Nat} {b f e : Nat} {x : Ch × Nat} (h : rdE T b f e = .inr x) (hb : b ≤ 99) (hf : isFig f) : VR x.1 := by
  unfold rdE at h
  split at h
  · cases hv : rdV T (e + 1) with
    | inl g => rw [hv] at h; cases h
    | inr v =>
      rw [hv] at h
      cases h
      exact ⟨hb, hf, fun w e => by cases e; exact rdV_in hv⟩
  · cases h
    exact ⟨hb, hf, fun w e => by cases e⟩
theorem rdC_ok {T : List Nat} {k : Nat} {x : Ch × Nat} (h : rdC T k = .inr x) : VR x.1 := by
  unfold rdC at h
  cases q1 : rdN T k with
  | none => rw [q1] at h; cases h
  | some b =>
    rw [q1] at h
    have := rdN_in q1
    dsimp only at h
    split at h
    · cases q2 : rdF T (b.2 + 1) with
      | none => rw [q2] at h; cases h
      | some f =>
        rw [q2] at h
        exact rdE_ok h this.1 (rdF_in q2).1
    · exact rdE_ok h this.1 (Or.inl rfl)
theorem rdA_ok {T : List Nat} : ∀ (f : Nat) (l : List Ch) (k : Nat) (l' : List Ch), (∀ x, x ∈ l → VR x) → rdA T f l k = .inr l' → ∀ x, x ∈ l' → VR x
  | 0, l, k, l', h, e => by unfold rdA at e; cases e; exact h
  | f + 1, l, k, l', h, e => by
    unfold rdA at e
    split at e
    · split at e
      · cases hc : rdC T (k + 1) with
        | inl g => rw [hc] at e; cases e
        | inr x =>
          rw [hc] at e
          refine rdA_ok f _ _ l' (fun y hy => ?_) e
          rcases List.mem_append.mp hy with w | w
          · exact h y w
          · rw [List.mem_singleton.mp w]; exact rdC_ok hc
      · cases e
    · cases e; exact h
theorem rdT_ok {T : List Nat} {l : List Ch} (h : rdT T = .inr l) : ∀ x, x ∈ l → VR x := by
  unfold rdT at h
  cases hc : rdC T 0 with
  | inl g => rw [hc] at h; cases h
  | inr x =>
    rw [hc] at h
    exact rdA_ok _ _ _ _ (fun y hy => by rw [List.mem_singleton.mp hy]; exact rdC_ok hc) h
def okB (l : List Ch) : Bool := (List.range l.length).all fun j => decide (36 ≤ (l.getD j (0, 0, none)).1 ∧ (l.getD j (0, 0, none)).1 ≤ 59)
section RO
variable {L : Nat} {σ : Nat → Nat} {I J : Nat → Nat → Int32} {Q : Option Value → fb_H → Prop} {T : List Nat} {k e b f : Nat} {l : List Ch} {S : Co}
theorem c13 (hR : RepR I l k) : ev_c 13 [.ref 52] (hp L σ I) Q = Q (some (.int (iI (l.length : Int)))) (hp L σ I) := by
  simp (disch := first | exact cat_i _ | exact cat_r _ | exact cat_n | omega) only [e13, u13_0, u13_1, u13_4, hT_52, hR.2.1, ↓reduceIte, false_and, and_false, false_or, or_false, ite_not, decide_true, decide_false, Bool.true_eq_false, Bool.false_eq_true, decide_eq_true_eq, decide_eq_false_iff_not, hp_I, hp_sI, hp_N, ev_k_s, ev_k_n, true_and, and_true, true_or, or_true, not_true_eq_false, not_false_eq_true, if_true, if_false, ite_self, Option.some.injEq, exists_eq_left', nb_0, nb_1, nb_z, zI_t, zI_f, zI_e, cat_i, cat_r, cat_n, iI_add, iI_sub, iI_mul, iI_neg, iI_lt, iI_le, iI_eq, iI_idx, iI_inT, iI_ne0, ite_false, ite_true, iN_0, iN_1, Int.reduceAdd, Int.reduceSub, Int.reduceMul, Int.reduceNeg, Int.reduceDiv, Int.reduceMod, Int.reduceEq, Int.reduceLT, Int.reduceLE, Int.reduceToNat, Nat.reduceAdd, Nat.reduceSub, Nat.reduceMul, Nat.reduceLT, Nat.reduceLeDiff, Nat.reduceEqDiff, Int.cast_ofNat_Int, Std.le_refl, and_self, Int.toNat_natCast, Int.toNat_zero, Nat.le_refl]
theorem c22 (hR : RepR I l k) (hs : StI I) (hl : l.length ≤ 10) (hv : ∀ x, x ∈ l → VR x) : ev_c 22 [.ref 52] (hp L σ I) Q = Q (some (.int (zI (okB l)))) (hp L σ I) := by
  have hn := hR.2.1
  have lp := lk0 (fun (j : Nat) => ev_w 22 2 [.ref 52, .int (iI (j : Int))] [] (hp L σ I) Q) (Q (some (.int (iI 0))) (hp L σ I)) (fun j => decide (36 ≤ (l.getD j (0, 0, none)).1 ∧ (l.getD j (0, 0, none)).1 ≤ 59)) l.length (fun j hj => by
    have hx : (l.getD j (0, 0, none)).1 ≤ 99 := by
      refine (hv _ ?_).1
      rw [List.getD_eq_getElem?_getD, List.getElem?_eq_getElem hj]
      exact List.getElem_mem hj
    have hb := (hR.2.2 j hj (by omega)).1
    show ev_w 22 2 [.ref 52, .int (iI (j : Int))] [] (hp L σ I) Q = _
    rw [u22_2]
    by_cases q : 36 ≤ (l.getD j (0, 0, none)).1 ∧ (l.getD j (0, 0, none)).1 ≤ 59
    · have q' : 36 ≤ ((l.getD j (0, 0, none)).1 : Int) ∧ ((l.getD j (0, 0, none)).1 : Int) ≤ 59 := by omega
      rw [decide_eq_true q, if_pos rfl]
      simp (disch := first | exact cat_i _ | exact cat_r _ | exact cat_n | omega) only [u22_3, u22_4, u22_7, u22_10, u22_11, u22_13, u22_16, u22_17, u22_20, u22_21, u22_22, u22_25, u22_28, u22_29, u22_30, u22_33, u22_36, u22_37, hT_52, hT_53, hR_52_0, hn, hb, c103 hs, zI_dt q', if_pos, if_neg, ↓reduceIte, false_and, and_false, false_or, or_false, ite_not, decide_true, decide_false, Bool.true_eq_false, Bool.false_eq_true, decide_eq_true_eq, decide_eq_false_iff_not, hp_I, hp_sI, hp_N, ev_k_s, ev_k_n, true_and, and_true, true_or, or_true, not_true_eq_false, not_false_eq_true, if_true, if_false, ite_self, Option.some.injEq, exists_eq_left', nb_0, nb_1, nb_z, zI_t, zI_f, zI_e, cat_i, cat_r, cat_n, iI_add, iI_sub, iI_mul, iI_neg, iI_lt, iI_le, iI_eq, iI_idx, iI_inT, iI_ne0, ite_false, ite_true, iN_0, iN_1, Int.reduceAdd, Int.reduceSub, Int.reduceMul, Int.reduceNeg, Int.reduceDiv, Int.reduceMod, Int.reduceEq, Int.reduceLT, Int.reduceLE, Int.reduceToNat, Nat.reduceAdd, Nat.reduceSub, Nat.reduceMul, Nat.reduceLT, Nat.reduceLeDiff, Nat.reduceEqDiff, Int.cast_ofNat_Int, Std.le_refl, and_self, Int.toNat_natCast, Int.toNat_zero, Nat.le_refl]
      rfl
    · have q' : ¬ (36 ≤ ((l.getD j (0, 0, none)).1 : Int) ∧ ((l.getD j (0, 0, none)).1 : Int) ≤ 59) := by omega
      rw [decide_eq_false q, if_neg (by decide)]
      simp (disch := first | exact cat_i _ | exact cat_r _ | exact cat_n | omega) only [u22_3, u22_4, u22_7, u22_10, u22_11, u22_13, u22_16, u22_17, u22_20, u22_21, u22_22, u22_25, u22_28, u22_29, u22_30, u22_33, u22_36, u22_37, hT_52, hT_53, hR_52_0, hn, hb, c103 hs, zI_df q', if_pos, if_neg, ↓reduceIte, false_and, and_false, false_or, or_false, ite_not, decide_true, decide_false, Bool.true_eq_false, Bool.false_eq_true, decide_eq_true_eq, decide_eq_false_iff_not, hp_I, hp_sI, hp_N, ev_k_s, ev_k_n, true_and, and_true, true_or, or_true, not_true_eq_false, not_false_eq_true, if_true, if_false, ite_self, Option.some.injEq, exists_eq_left', nb_0, nb_1, nb_z, zI_t, zI_f, zI_e, cat_i, cat_r, cat_n, iI_add, iI_sub, iI_mul, iI_neg, iI_lt, iI_le, iI_eq, iI_idx, iI_inT, iI_ne0, ite_false, ite_true, iN_0, iN_1, Int.reduceAdd, Int.reduceSub, Int.reduceMul, Int.reduceNeg, Int.reduceDiv, Int.reduceMod, Int.reduceEq, Int.reduceLT, Int.reduceLE, Int.reduceToNat, Nat.reduceAdd, Nat.reduceSub, Nat.reduceMul, Nat.reduceLT, Nat.reduceLeDiff, Nat.reduceEqDiff, Int.cast_ofNat_Int, Std.le_refl, and_self, Int.toNat_natCast, Int.toNat_zero, Nat.le_refl])
  simp (disch := first | exact cat_i _ | exact cat_r _ | exact cat_n | omega) only [u22_0, u22_1, e22, ↓reduceIte, false_and, and_false, false_or, or_false, ite_not, decide_true, decide_false, Bool.true_eq_false, Bool.false_eq_true, decide_eq_true_eq, decide_eq_false_iff_not, hp_I, hp_sI, hp_N, ev_k_s, ev_k_n, true_and, and_true, true_or, or_true, not_true_eq_false, not_false_eq_true, if_true, if_false, ite_self, Option.some.injEq, exists_eq_left', nb_0, nb_1, nb_z, zI_t, zI_f, zI_e, cat_i, cat_r, cat_n, iI_add, iI_sub, iI_mul, iI_neg, iI_lt, iI_le, iI_eq, iI_idx, iI_inT, iI_ne0, ite_false, ite_true, iN_0, iN_1, Int.reduceAdd, Int.reduceSub, Int.reduceMul, Int.reduceNeg, Int.reduceDiv, Int.reduceMod, Int.reduceEq, Int.reduceLT, Int.reduceLE, Int.reduceToNat, Nat.reduceAdd, Nat.reduceSub, Nat.reduceMul, Nat.reduceLT, Nat.reduceLeDiff, Nat.reduceEqDiff, Int.cast_ofNat_Int, Std.le_refl, and_self, Int.toNat_natCast, Int.toNat_zero, Nat.le_refl]
  refine Eq.trans lp ?_
  simp (disch := first | exact cat_i _ | exact cat_r _ | exact cat_n | omega) only [u22_2, u22_3, u22_4, u22_7, u22_10, u22_11, u22_13, u22_16, u22_17, u22_20, u22_21, u22_22, u22_25, u22_28, u22_29, u22_30, u22_33, u22_36, u22_37, hT_52, hn, if_pos, if_neg, ↓reduceIte, false_and, and_false, false_or, or_false, ite_not, decide_true, decide_false, Bool.true_eq_false, Bool.false_eq_true, decide_eq_true_eq, decide_eq_false_iff_not, hp_I, hp_sI, hp_N, ev_k_s, ev_k_n, true_and, and_true, true_or, or_true, not_true_eq_false, not_false_eq_true, if_true, if_false, ite_self, Option.some.injEq, exists_eq_left', nb_0, nb_1, nb_z, zI_t, zI_f, zI_e, cat_i, cat_r, cat_n, iI_add, iI_sub, iI_mul, iI_neg, iI_lt, iI_le, iI_eq, iI_idx, iI_inT, iI_ne0, ite_false, ite_true, iN_0, iN_1, Int.reduceAdd, Int.reduceSub, Int.reduceMul, Int.reduceNeg, Int.reduceDiv, Int.reduceMod, Int.reduceEq, Int.reduceLT, Int.reduceLE, Int.reduceToNat, Nat.reduceAdd, Nat.reduceSub, Nat.reduceMul, Nat.reduceLT, Nat.reduceLeDiff, Nat.reduceEqDiff, Int.cast_ofNat_Int, Std.le_refl, and_self, Int.toNat_natCast, Int.toNat_zero, Nat.le_refl]
  unfold okB
  cases (List.range l.length).all (fun j => decide (36 ≤ (l.getD j (0, 0, none)).1 ∧ (l.getD j (0, 0, none)).1 ≤ 59)) <;> rfl
theorem okB_k (h : okB l = true) {j : Nat} (hj : j < l.length) : 36 ≤ (l.getD j (0, 0, none)).1 ∧ (l.getD j (0, 0, none)).1 ≤ 59 := of_decide_eq_true (List.all_eq_true.mp h j (List.mem_range.mpr hj))
theorem VC_k (h : okB l = true) (hv : ∀ x, x ∈ l → VR x) {j : Nat} (hj : j < l.length) : VC (l.getD j (0, 0, none)) := by
  have h1 := okB_k h hj
  have h2 : VR (l.getD j (0, 0, none)) := by
    refine hv _ ?_
    rw [List.getD_eq_getElem?_getD, List.getElem?_eq_getElem hj]
    exact List.getElem_mem hj
  exact ⟨h1.1, h1.2, h2.2.1, h2.2.2⟩
/-- giveChordsTo -/
theorem c23 (hR : RepR I l k) (hl : l.length ≤ 10) (hv : ∀ x, x ∈ l → VR x) (hb : okB l = true) (hr : RepP I 1 S) (hV : VS S) : ∃ K, (∀ Q : Option Value → fb_H → Prop, ev_c 23 [.ref 52, .ref 1] (hp L σ I) Q = Q none (hp L σ K)) ∧ RepP K 1 (S.1, l) ∧ VS (S.1, l) ∧ Oth I K 1 := by
  obtain ⟨C, c1', c2', c3'⟩ := c43 (L := L) (σ := σ) isp1 hr
  have hV0 : VS (S.1, []) := ⟨hV.1, hV.2.1, hV.2.2.1, Nat.zero_le _, fun c h => absurd h (Nat.not_lt_zero c)⟩
  obtain ⟨K, ⟨p1, p2, p3⟩, e⟩ := lx (fun Q (J : Nat → Nat → Int32) (j : Nat) => ev_w 23 6 [.ref 52, .ref 1, .int (iI (j : Int))] [] (hp L σ J) Q) (fun J j => RepP J 1 (S.1, l.take j) ∧ VS (S.1, l.take j) ∧ Oth I J 1) l.length (fun B j hj hp' => by
    obtain ⟨p1, p2, p3⟩ := hp'
    have hlen : (l.take j).length = j := by rw [List.length_take]; omega
    have hVC := VC_k hb hv hj
    obtain ⟨D, d1, d2, d3⟩ := c41 (L := L) (σ := σ) isp1 p1 p2 (n := j) (by show j ≤ (l.take j).length; omega) (by show (l.take j).length < 10; omega) (l.getD j (0, 0, none))
    have hins : ins (S.1, l.take j) j (l.getD j (0, 0, none)) = (S.1, l.take (j + 1)) := by
      unfold ins
      dsimp only
      rw [List.take_add_one, List.getElem?_eq_getElem hj, List.getD_eq_getElem?_getD, List.getElem?_eq_getElem hj]
      have := List.insertIdx_length_self (l := l.take j) (x := l[j])
      rw [hlen] at this
      rw [Option.getD_some, this]
      rfl
    have hVn := VS_ins p2 (n := j) (by show j ≤ (l.take j).length; omega) (by show (l.take j).length < 10; omega) hVC
    rw [hins] at d2 hVn
    refine ⟨D, ⟨d2, hVn, fun i q a => (d3 i q a).trans (p3 i q a)⟩, fun Q => ?_⟩
    have hn : B 52 3 = iI (l.length : Int) := (p3 _ _ (by omega)).trans hR.2.1
    obtain ⟨b1, b2, b3⟩ := hR.2.2 j hj (by omega)
    have f1 := (p3 53 j (by omega)).trans b1
    have f2 := (p3 54 j (by omega)).trans b2
    have f3 := (p3 55 j (by omega)).trans b3
    show ev_w 23 6 [.ref 52, .ref 1, .int (iI (j : Int))] [] (hp L σ B) Q = _
    rw [u23_6]
    simp (disch := first | exact cat_i _ | exact cat_r _ | exact cat_n | omega) only [u23_7, u23_8, u23_11, u23_14, u23_15, u23_17, u23_20, u23_21, u23_22, u23_23, u23_26, u23_27, u23_28, u23_29, u23_32, u23_33, u23_34, u23_35, u23_38, u23_39, u23_40, u23_43, u23_46, u23_49, hT_1, hT_52, hT_53, hT_54, hT_55, hR_52_0, hR_52_1, hR_52_2, hn, f1, f2, f3, d1, if_pos, if_neg, ↓reduceIte, false_and, and_false, false_or, or_false, ite_not, decide_true, decide_false, Bool.true_eq_false, Bool.false_eq_true, decide_eq_true_eq, decide_eq_false_iff_not, hp_I, hp_sI, hp_N, ev_k_s, ev_k_n, true_and, and_true, true_or, or_true, not_true_eq_false, not_false_eq_true, if_true, if_false, ite_self, Option.some.injEq, exists_eq_left', nb_0, nb_1, nb_z, zI_t, zI_f, zI_e, cat_i, cat_r, cat_n, iI_add, iI_sub, iI_mul, iI_neg, iI_lt, iI_le, iI_eq, iI_idx, iI_inT, iI_ne0, ite_false, ite_true, iN_0, iN_1, Int.reduceAdd, Int.reduceSub, Int.reduceMul, Int.reduceNeg, Int.reduceDiv, Int.reduceMod, Int.reduceEq, Int.reduceLT, Int.reduceLE, Int.reduceToNat, Nat.reduceAdd, Nat.reduceSub, Nat.reduceMul, Nat.reduceLT, Nat.reduceLeDiff, Nat.reduceEqDiff, Int.cast_ofNat_Int, Std.le_refl, and_self, Int.toNat_natCast, Int.toNat_zero, Nat.le_refl]
    rfl) l.length 0 C (by omega) ⟨c2', hV0, c3'⟩
  rw [List.take_length] at p1 p2
  refine ⟨K, fun Q => ?_, p1, p2, p3⟩
  have e0 := e Q
  clear e
  have hn : K 52 3 = iI (l.length : Int) := (p3 _ _ (by omega)).trans hR.2.1
  simp (disch := first | exact cat_i _ | exact cat_r _ | exact cat_n | omega) only [u23_0, u23_1, u23_4, u23_5, e23, hT_1, c1', if_pos, if_neg, ↓reduceIte, false_and, and_false, false_or, or_false, ite_not, decide_true, decide_false, Bool.true_eq_false, Bool.false_eq_true, decide_eq_true_eq, decide_eq_false_iff_not, hp_I, hp_sI, hp_N, ev_k_s, ev_k_n, true_and, and_true, true_or, or_true, not_true_eq_false, not_false_eq_true, if_true, if_false, ite_self, Option.some.injEq, exists_eq_left', nb_0, nb_1, nb_z, zI_t, zI_f, zI_e, cat_i, cat_r, cat_n, iI_add, iI_sub, iI_mul, iI_neg, iI_lt, iI_le, iI_eq, iI_idx, iI_inT, iI_ne0, ite_false, ite_true, iN_0, iN_1, Int.reduceAdd, Int.reduceSub, Int.reduceMul, Int.reduceNeg, Int.reduceDiv, Int.reduceMod, Int.reduceEq, Int.reduceLT, Int.reduceLE, Int.reduceToNat, Nat.reduceAdd, Nat.reduceSub, Nat.reduceMul, Nat.reduceLT, Nat.reduceLeDiff, Nat.reduceEqDiff, Int.cast_ofNat_Int, Std.le_refl, and_self, Int.toNat_natCast, Int.toNat_zero, Nat.le_refl]
  refine Eq.trans e0 ?_
  simp (disch := first | exact cat_i _ | exact cat_r _ | exact cat_n | omega) only [u23_6, u23_7, u23_8, u23_11, u23_14, u23_15, u23_17, u23_20, u23_21, u23_22, u23_23, u23_26, u23_27, u23_28, u23_29, u23_32, u23_33, u23_34, u23_35, u23_38, u23_39, u23_40, u23_43, u23_46, u23_49, hT_52, hn, if_pos, if_neg, ↓reduceIte, false_and, and_false, false_or, or_false, ite_not, decide_true, decide_false, Bool.true_eq_false, Bool.false_eq_true, decide_eq_true_eq, decide_eq_false_iff_not, hp_I, hp_sI, hp_N, ev_k_s, ev_k_n, true_and, and_true, true_or, or_true, not_true_eq_false, not_false_eq_true, if_true, if_false, ite_self, Option.some.injEq, exists_eq_left', nb_0, nb_1, nb_z, zI_t, zI_f, zI_e, cat_i, cat_r, cat_n, iI_add, iI_sub, iI_mul, iI_neg, iI_lt, iI_le, iI_eq, iI_idx, iI_inT, iI_ne0, ite_false, ite_true, iN_0, iN_1, Int.reduceAdd, Int.reduceSub, Int.reduceMul, Int.reduceNeg, Int.reduceDiv, Int.reduceMod, Int.reduceEq, Int.reduceLT, Int.reduceLE, Int.reduceToNat, Nat.reduceAdd, Nat.reduceSub, Nat.reduceMul, Nat.reduceLT, Nat.reduceLeDiff, Nat.reduceEqDiff, Int.cast_ofNat_Int, Std.le_refl, and_self, Int.toNat_natCast, Int.toNat_zero, Nat.le_refl]
end RO
